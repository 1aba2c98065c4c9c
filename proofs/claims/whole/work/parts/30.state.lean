/-! the net as numbers: what the model holds, by the names of its arrays (kinds) and fields; naturals, ints, longs -/
abbrev zA : Type := (Nat → Nat → Nat) × (Nat → Nat → Int32) × (Nat → Int64)
def zN (σ : zA) : Nat → Nat → Nat := σ.1
def zJ (σ : zA) : Nat → Nat → Int32 := σ.2.1
def zQ (σ : zA) : Nat → Int64 := σ.2.2
def zN_s (σ : zA) (κ i v : Nat) : zA := ((fun k j => if k = κ ∧ j = i then v else σ.1 k j), σ.2)
def zJ_s (σ : zA) (κ i : Nat) (v : Int32) : zA := (σ.1, (fun k j => if k = κ ∧ j = i then v else σ.2.1 k j), σ.2.2)
def zQ_s (σ : zA) (i : Nat) (v : Int64) : zA := (σ.1, σ.2.1, fun j => if j = i then v else σ.2.2 j)
def zk_i : List Nat := [127, 128, 129, 137, 138, 139, 141, 1608, 1593, 1594]
def zk_t : List (Nat × Nat × Nat) := [(1577, 120, 12), (1578, 121, 12), (1579, 122, 12), (1581, 123, 200), (1582, 124, 200), (1583, 125, 200), (1584, 126, 200), (1585, 127, 4000), (1586, 200, 200), (1587, 128, 20), (1589, 129, 64), (1590, 201, 64), (1591, 130, 2240), (1596, 131, 24), (1597, 132, 6), (1598, 133, 6), (1599, 134, 60), (1600, 135, 60), (1601, 136, 60), (1602, 202, 60), (1603, 137, 1320), (1604, 300, 72), (1605, 138, 72), (1606, 139, 24), (1609, 140, 160), (1612, 141, 24)]
/-- the model m, its arrays at am, holds σ -/
def zM (m : Nat) (am : Nat → Nat) (σ : zA) (w : zw_T) : Prop := (zw_ty w m).1 = 10 ∧ (∀ κ, 1000 ≤ κ → am κ = m) ∧ (∀ q ∈ zk_t, zw_R w q.1 m 0 = some (am q.2.1) ∧ zw_ty w (am q.2.1) = q.2) ∧ (∀ κ i, zw_I w κ (am κ) i = if κ ∈ zk_i then zJ σ κ i else nI (zN σ κ i)) ∧ ∀ i, zw_L w 300 (am 300) i = zQ σ i

theorem zM_at {m : Nat} {am : Nat → Nat} {σ : zA} {w : zw_T} {ρ : Type} {K : Nat → Option ρ} (h : zM m am σ w) : zf_at w 10 (some m) K = K m := by
  unfold zf_at
  exact if_pos h.1
theorem zM_R {m : Nat} {am : Nat → Nat} {σ : zA} {w : zw_T} (h : zM m am σ w) (f κ n : Nat) (hq : (f, κ, n) ∈ zk_t) : zw_R w f m 0 = some (am κ) := (h.2.2.1 _ hq).1
theorem zM_ix {m : Nat} {am : Nat → Nat} {σ : zA} {w : zw_T} {ρ : Type} {K : Nat → Nat → Option ρ} (h : zM m am σ w) (f κ n : Nat) (hq : (f, κ, n) ∈ zk_t) {j : Nat} (hj : j < n) (hn : n < 5000) : zf_ix w κ (some (am κ)) (nI j) K = K (am κ) j := by
  have e := (h.2.2.1 _ hq).2
  have e : zw_ty w (am κ) = (κ, n) := e
  have h1 : (nI j).toNatClampNeg = j := nI_clamp (by omega)
  show (if (zw_ty w (am κ)).1 = κ ∧ ¬ nI j < 0 ∧ (nI j).toNatClampNeg < (zw_ty w (am κ)).2 then K (am κ) (nI j).toNatClampNeg else none) = _
  rw [h1, if_pos]
  rw [e]
  exact ⟨rfl, nI_pos (by omega), hj⟩
theorem zM_n {m : Nat} {am : Nat → Nat} {σ : zA} {w : zw_T} (h : zM m am σ w) (κ : Nat) (hk : κ ∉ zk_i) (j : Nat) : zw_I w κ (am κ) j = nI (zN σ κ j) := (h.2.2.2.1 κ j).trans (if_neg hk)
theorem zM_j {m : Nat} {am : Nat → Nat} {σ : zA} {w : zw_T} (h : zM m am σ w) (κ : Nat) (hk : κ ∈ zk_i) (j : Nat) : zw_I w κ (am κ) j = zJ σ κ j := (h.2.2.2.1 κ j).trans (if_pos hk)
theorem zM_fn {m : Nat} {am : Nat → Nat} {σ : zA} {w : zw_T} (h : zM m am σ w) (κ : Nat) (h0 : 1000 ≤ κ) (hk : κ ∉ zk_i) : zw_I w κ m 0 = nI (zN σ κ 0) := by
  have := zM_n h κ hk 0
  rw [h.2.1 κ h0] at this
  exact this
theorem zM_fj {m : Nat} {am : Nat → Nat} {σ : zA} {w : zw_T} (h : zM m am σ w) (κ : Nat) (h0 : 1000 ≤ κ) (hk : κ ∈ zk_i) : zw_I w κ m 0 = zJ σ κ 0 := by
  have := zM_j h κ hk 0
  rw [h.2.1 κ h0] at this
  exact this
theorem zM_l {m : Nat} {am : Nat → Nat} {σ : zA} {w : zw_T} (h : zM m am σ w) (j : Nat) : zw_L w 300 (am 300) j = zQ σ j := h.2.2.2.2 j
theorem zw_sI_r (w : zw_T) (k a i : Nat) (v : Int32) (k' a' i' : Nat) : zw_I (zw_sI w k a i v) k' a' i' = if k' = k ∧ a' = a ∧ i' = i then v else zw_I w k' a' i' := by
  show zw_u2 w.2.1 k a (upd (zw_I w k a) i v) k' a' i' = _
  unfold zw_u2
  by_cases h : k' = k ∧ a' = a
  · rw [if_pos h]
    obtain ⟨rfl, rfl⟩ := h
    unfold upd
    by_cases hi : i' = i
    · rw [if_pos hi, if_pos ⟨rfl, rfl, hi⟩]
    · rw [if_neg hi, if_neg (fun q => hi q.2.2)]
  · rw [if_neg h, if_neg (fun q => h ⟨q.1, q.2.1⟩)]
    rfl
theorem zM_sn {m : Nat} {am : Nat → Nat} {σ : zA} {w : zw_T} (h : zM m am σ w) (κ : Nat) (hk : κ ∉ zk_i) (j v : Nat) : zM m am (zN_s σ κ j v) (zw_sI w κ (am κ) j (nI v)) := by
  refine ⟨h.1, h.2.1, h.2.2.1, fun k i => ?_, h.2.2.2.2⟩
  rw [zw_sI_r, h.2.2.2.1 k i]
  by_cases hq : k = κ ∧ i = j
  · obtain ⟨rfl, rfl⟩ := hq
    rw [if_pos ⟨rfl, rfl, rfl⟩, if_neg hk]
    exact congrArg nI (if_pos ⟨rfl, rfl⟩).symm
  · rw [if_neg (fun q => hq ⟨q.1, q.2.2⟩)]
    by_cases h2 : k ∈ zk_i
    · rw [if_pos h2, if_pos h2]
      rfl
    · rw [if_neg h2, if_neg h2]
      exact congrArg nI (if_neg hq).symm
theorem zM_sj {m : Nat} {am : Nat → Nat} {σ : zA} {w : zw_T} (h : zM m am σ w) (κ : Nat) (hk : κ ∈ zk_i) (j : Nat) (v : Int32) : zM m am (zJ_s σ κ j v) (zw_sI w κ (am κ) j v) := by
  refine ⟨h.1, h.2.1, h.2.2.1, fun k i => ?_, h.2.2.2.2⟩
  rw [zw_sI_r, h.2.2.2.1 k i]
  by_cases hq : k = κ ∧ i = j
  · obtain ⟨rfl, rfl⟩ := hq
    rw [if_pos ⟨rfl, rfl, rfl⟩, if_pos hk]
    exact (if_pos ⟨rfl, rfl⟩).symm
  · rw [if_neg (fun q => hq ⟨q.1, q.2.2⟩)]
    by_cases h2 : k ∈ zk_i
    · rw [if_pos h2, if_pos h2]
      exact (if_neg hq).symm
    · rw [if_neg h2, if_neg h2]
      rfl
theorem zM_sfn {m : Nat} {am : Nat → Nat} {σ : zA} {w : zw_T} (h : zM m am σ w) (κ : Nat) (h0 : 1000 ≤ κ) (hk : κ ∉ zk_i) (v : Nat) : zM m am (zN_s σ κ 0 v) (zw_sI w κ m 0 (nI v)) := by
  have := zM_sn h κ hk 0 v
  rw [h.2.1 κ h0] at this
  exact this
theorem zM_sfj {m : Nat} {am : Nat → Nat} {σ : zA} {w : zw_T} (h : zM m am σ w) (κ : Nat) (h0 : 1000 ≤ κ) (hk : κ ∈ zk_i) (v : Int32) : zM m am (zJ_s σ κ 0 v) (zw_sI w κ m 0 v) := by
  have := zM_sj h κ hk 0 v
  rw [h.2.1 κ h0] at this
  exact this
theorem zM_sl {m : Nat} {am : Nat → Nat} {σ : zA} {w : zw_T} (h : zM m am σ w) (j : Nat) (v : Int64) : zM m am (zQ_s σ j v) (zw_sL w 300 (am 300) j v) := by
  refine ⟨h.1, h.2.1, h.2.2.1, h.2.2.2.1, fun i => ?_⟩
  show zw_u2 w.2.2.2.1 300 (am 300) (vp_updL (zw_L w 300 (am 300)) j v) 300 (am 300) i = _
  unfold zw_u2
  rw [if_pos ⟨rfl, rfl⟩]
  unfold vp_updL
  by_cases hi : i = j
  · rw [if_pos hi]
    exact (if_pos hi).symm
  · rw [if_neg hi, h.2.2.2.2 i]
    exact (if_neg hi).symm
