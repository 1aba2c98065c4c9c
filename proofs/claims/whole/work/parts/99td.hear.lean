/-! hear: a message is stored: room, and the place -/
def zrm (σ : zA) (p a b : Nat) : zA := ((fun κ j => if (κ = 134 ∨ κ = 135 ∨ κ = 136 ∨ κ = 202) ∧ 10 * p ≤ j ∧ j < 10 * p + a then zN σ κ (j + 1) else zN σ κ j), (fun κ j => if κ = 137 ∧ 220 * p ≤ j ∧ j < 220 * p + b then zJ σ 137 (j + 22) else zJ σ κ j), zQ σ)
def zdrF (σ : zA) (p : Nat) : zA := zN_s (zrm σ p 9 198) 133 p 9
def zdrT (τ : zB) (p o : Nat) : zB := zb_sI (zb_sI τ 1387 p 0 (nI ((o + 1) % 10))) 1388 p 0 (nI 9)
def zapT (τ : zB) (p R kn i num mk L : Nat) (f : Nat → Int32) : zB := zb_sF (zb_sI (zb_sI (zb_sI (zb_sI (zb_sI τ 1388 p 0 (nI kn)) 1448 R 0 (nI i)) 1449 R 0 (nI num)) 1450 R 0 (nI mk)) 1452 R 0 (nI L)) 104 R f
def zapJ (σ : zA) (y c : Nat) (sg : Nat → Int32) : zA := (σ.1, (fun κ j => if κ = 137 ∧ 22 * y ≤ j ∧ j < 22 * y + c then sg (j - 22 * y) else zJ σ κ j), zQ σ)
def zapF (σ : zA) (p i num mk L : Nat) (sg : Nat → Int32) : zA := zapJ (zN_s (zN_s (zN_s (zN_s (zN_s σ 133 p (zN σ 133 p + 1)) 134 (10 * p + zN σ 133 p) i) 135 (10 * p + zN σ 133 p) num) 136 (10 * p + zN σ 133 p) L) 202 (10 * p + zN σ 133 p) mk) (10 * p + zN σ 133 p) L sg
theorem zb_I_sFn (τ : zB) {κ i : Nat} {f : Nat → Int32} {k a : Nat} (h : k ≠ κ) : zb_I (zb_sF τ κ i f) k a = zb_I τ k a := if_neg (fun z => h z.1)
theorem zb_I_sFi (τ : zB) {κ i : Nat} {f : Nat → Int32} {a : Nat} (h : a ≠ i) : zb_I (zb_sF τ κ i f) κ a = zb_I τ κ a := if_neg (fun z => h z.2)
section ZH4
variable {τ : zB} {σ : zA} {p : Nat} {o : Nat → Nat}
theorem zdr_I (hI : zI σ) (hp : p < zN σ 1595 0) : zI (zdrF σ p) := by
  obtain ⟨i_idn, i_msn, i_ldn, i_bts, i_pgn, i_b32, i_adr, i_res, i_inj, i_knd, i_cal, i_cal0, i_mto, i_mpr, i_mnu, i_mle, i_wts, i_wtn, i_ld, i_mk, i_air, i_hcn, i_hrs, i_hc0, i_ct0, i_mi0, i_dis, i_kpn, i_kmn, i_kof, i_knu, i_lat⟩ := hI
  refine ⟨i_idn, i_msn, i_ldn, i_bts, i_pgn, i_b32, i_adr, i_res, i_inj, i_knd, i_cal, i_cal0, i_mto, i_mpr, i_mnu, i_mle, i_wts, i_wtn, i_ld, fun j => ?_, i_air, i_hcn, i_hrs, fun q hq => ?_, i_ct0, i_mi0, i_dis, fun q => ?_, fun j => ?_, fun j => ?_, fun j => ?_, i_lat⟩
  · show (if (202 = 134 ∨ 202 = 135 ∨ 202 = 136 ∨ 202 = 202) ∧ 10 * p ≤ j ∧ j < 10 * p + 9 then zN σ 202 (j + 1) else zN σ 202 j) < 2
    split
    · exact i_mk _
    · exact i_mk _
  · have hq : zN σ 1595 0 ≤ q := hq
    refine ⟨(i_hc0 q hq).1, ?_⟩
    show (if 133 = 133 ∧ q = p then 9 else zN σ 133 q) = 0
    rw [if_neg (by omega)]
    exact (i_hc0 q hq).2
  · show (if 133 = 133 ∧ q = p then 9 else zN σ 133 q) ≤ 10
    split
    · decide
    · exact i_kpn q
  · show (if (136 = 134 ∨ 136 = 135 ∨ 136 = 136 ∨ 136 = 202) ∧ 10 * p ≤ j ∧ j < 10 * p + 9 then zN σ 136 (j + 1) else zN σ 136 j) ≤ 21
    split
    · exact i_kmn _
    · exact i_kmn _
  · show (if (134 = 134 ∨ 134 = 135 ∨ 134 = 136 ∨ 134 = 202) ∧ 10 * p ≤ j ∧ j < 10 * p + 9 then zN σ 134 (j + 1) else zN σ 134 j) < 12
    split
    · exact i_kof _
    · exact i_kof _
  · show (if (135 = 134 ∨ 135 = 135 ∨ 135 = 136 ∨ 135 = 202) ∧ 10 * p ≤ j ∧ j < 10 * p + 9 then zN σ 135 (j + 1) else zN σ 135 j) < 64
    split
    · exact i_knu _
    · exact i_knu _
theorem zdr_P4 (hI : zI σ) (h4 : zP4 τ σ o) (hp : p < zN σ 1595 0) (hk : zN σ 133 p = 10) : zP4 (zdrT τ p (o p)) (zdrF σ p) (fun q => if q = p then (o p + 1) % 10 else o q) := by
  have hn : ∀ q, zN (zdrF σ p) 133 q = if 133 = 133 ∧ q = p then 9 else zN σ 133 q := fun q => rfl
  have i1 := zI_kpn hI
  have i2 := zI_kmn hI
  obtain ⟨p4_a, p4_sa, p4_sl, p4_sr, p4_r, p4_o, p4_ol, p4_n, p4_id, p4_nu, p4_mk, p4_sn, p4_sg⟩ := h4
  have op := p4_o p hp
  refine ⟨p4_a, p4_sa, p4_sl, p4_sr, p4_r, fun q hq => ?_, fun q hq => ?_, fun q hq => ?_, fun q j hq hj => ?_, fun q j hq hj => ?_, fun q j hq hj => ?_, fun q j hq hj => ?_, fun q j s hq hj hs => ?_⟩
  · have hq : q < zN σ 1595 0 := hq
    show (if q = p then (o p + 1) % 10 else o q) < 10
    split
    · exact Nat.mod_lt _ (by decide)
    · exact p4_o q hq
  · have hq : q < zN σ 1595 0 := hq
    unfold zdrT
    show _ = nI (if q = p then (o p + 1) % 10 else o q)
    rw [zb_I_ne _ (by decide), zb_I_sI]
    by_cases hz : q = p
    · rw [if_pos ⟨rfl, hz, rfl⟩, if_pos hz]
    · rw [if_neg (fun z => hz z.2.1), if_neg hz]
      exact p4_ol q hq
  · have hq : q < zN σ 1595 0 := hq
    unfold zdrT
    rw [hn, zb_I_sI]
    by_cases hz : q = p
    · rw [if_pos ⟨rfl, hz, rfl⟩, if_pos ⟨rfl, hz⟩]
    · rw [if_neg (fun z => hz z.2.1), if_neg (fun z => hz z.2), zb_I_ne _ (by decide)]
      exact p4_n q hq
  · have hq : q < zN σ 1595 0 := hq
    rw [hn] at hj
    show zb_I τ 1448 (10 * q + ((if q = p then (o p + 1) % 10 else o q) + j) % 10) 0 = nI (if (134 = 134 ∨ 134 = 135 ∨ 134 = 136 ∨ 134 = 202) ∧ 10 * p ≤ 10 * q + j ∧ 10 * q + j < 10 * p + 9 then zN σ 134 (10 * q + j + 1) else zN σ 134 (10 * q + j))
    by_cases hz : q = p
    · subst hz
      rw [if_pos ⟨rfl, rfl⟩] at hj
      have e := p4_id q (j + 1) hq (by omega)
      rw [if_pos rfl, if_pos (by omega), show ((o q + 1) % 10 + j) % 10 = (o q + (j + 1)) % 10 by omega, e]
      rfl
    · rw [if_neg (fun z => hz z.2)] at hj
      have := i1 q
      rw [if_neg hz, if_neg (by omega)]
      exact p4_id q j hq hj
  · have hq : q < zN σ 1595 0 := hq
    rw [hn] at hj
    show zb_I τ 1449 (10 * q + ((if q = p then (o p + 1) % 10 else o q) + j) % 10) 0 = nI (if (135 = 134 ∨ 135 = 135 ∨ 135 = 136 ∨ 135 = 202) ∧ 10 * p ≤ 10 * q + j ∧ 10 * q + j < 10 * p + 9 then zN σ 135 (10 * q + j + 1) else zN σ 135 (10 * q + j))
    by_cases hz : q = p
    · subst hz
      rw [if_pos ⟨rfl, rfl⟩] at hj
      have e := p4_nu q (j + 1) hq (by omega)
      rw [if_pos rfl, if_pos (by omega), show ((o q + 1) % 10 + j) % 10 = (o q + (j + 1)) % 10 by omega, e]
      rfl
    · rw [if_neg (fun z => hz z.2)] at hj
      have := i1 q
      rw [if_neg hz, if_neg (by omega)]
      exact p4_nu q j hq hj
  · have hq : q < zN σ 1595 0 := hq
    rw [hn] at hj
    show zb_I τ 1450 (10 * q + ((if q = p then (o p + 1) % 10 else o q) + j) % 10) 0 = nI (if (202 = 134 ∨ 202 = 135 ∨ 202 = 136 ∨ 202 = 202) ∧ 10 * p ≤ 10 * q + j ∧ 10 * q + j < 10 * p + 9 then zN σ 202 (10 * q + j + 1) else zN σ 202 (10 * q + j))
    by_cases hz : q = p
    · subst hz
      rw [if_pos ⟨rfl, rfl⟩] at hj
      have e := p4_mk q (j + 1) hq (by omega)
      rw [if_pos rfl, if_pos (by omega), show ((o q + 1) % 10 + j) % 10 = (o q + (j + 1)) % 10 by omega, e]
      rfl
    · rw [if_neg (fun z => hz z.2)] at hj
      have := i1 q
      rw [if_neg hz, if_neg (by omega)]
      exact p4_mk q j hq hj
  · have hq : q < zN σ 1595 0 := hq
    rw [hn] at hj
    show zb_I τ 1452 (10 * q + ((if q = p then (o p + 1) % 10 else o q) + j) % 10) 0 = nI (if (136 = 134 ∨ 136 = 135 ∨ 136 = 136 ∨ 136 = 202) ∧ 10 * p ≤ 10 * q + j ∧ 10 * q + j < 10 * p + 9 then zN σ 136 (10 * q + j + 1) else zN σ 136 (10 * q + j))
    by_cases hz : q = p
    · subst hz
      rw [if_pos ⟨rfl, rfl⟩] at hj
      have e := p4_sn q (j + 1) hq (by omega)
      rw [if_pos rfl, if_pos (by omega), show ((o q + 1) % 10 + j) % 10 = (o q + (j + 1)) % 10 by omega, e]
      rfl
    · rw [if_neg (fun z => hz z.2)] at hj
      have := i1 q
      rw [if_neg hz, if_neg (by omega)]
      exact p4_sn q j hq hj
  · have hq : q < zN σ 1595 0 := hq
    rw [hn] at hj
    have hs : s < (if (136 = 134 ∨ 136 = 135 ∨ 136 = 136 ∨ 136 = 202) ∧ 10 * p ≤ 10 * q + j ∧ 10 * q + j < 10 * p + 9 then zN σ 136 (10 * q + j + 1) else zN σ 136 (10 * q + j)) := hs
    show zb_I τ 104 (10 * q + ((if q = p then (o p + 1) % 10 else o q) + j) % 10) s = if 137 = 137 ∧ 220 * p ≤ 22 * (10 * q + j) + s ∧ 22 * (10 * q + j) + s < 220 * p + 198 then zJ σ 137 (22 * (10 * q + j) + s + 22) else zJ σ 137 (22 * (10 * q + j) + s)
    by_cases hz : q = p
    · subst hz
      rw [if_pos ⟨rfl, rfl⟩] at hj
      rw [if_pos (by omega)] at hs
      have := i2 (10 * q + j + 1)
      have e := p4_sg q (j + 1) s hq (by omega) hs
      rw [if_pos rfl, if_pos (by omega), show ((o q + 1) % 10 + j) % 10 = (o q + (j + 1)) % 10 by omega, e]
      congr 1
      omega
    · rw [if_neg (fun z => hz z.2)] at hj
      have := i1 q
      rw [if_neg (by omega)] at hs
      have := i2 (10 * q + j)
      rw [if_neg hz, if_neg (by omega)]
      exact p4_sg q j s hq hj hs
theorem zap_I (hI : zI σ) (hp : p < zN σ 1595 0) (hk : zN σ 133 p < 10) {i num mk L : Nat} {sg : Nat → Int32} (hi : i < 12) (hn : num < 64) (hm : mk < 2) (hL : L ≤ 21) : zI (zapF σ p i num mk L sg) := by
  obtain ⟨i_idn, i_msn, i_ldn, i_bts, i_pgn, i_b32, i_adr, i_res, i_inj, i_knd, i_cal, i_cal0, i_mto, i_mpr, i_mnu, i_mle, i_wts, i_wtn, i_ld, i_mk, i_air, i_hcn, i_hrs, i_hc0, i_ct0, i_mi0, i_dis, i_kpn, i_kmn, i_kof, i_knu, i_lat⟩ := hI
  refine ⟨i_idn, i_msn, i_ldn, i_bts, i_pgn, i_b32, i_adr, i_res, i_inj, i_knd, i_cal, i_cal0, i_mto, i_mpr, i_mnu, i_mle, i_wts, i_wtn, i_ld, fun j => ?_, i_air, i_hcn, i_hrs, fun q hq => ?_, i_ct0, i_mi0, i_dis, fun q => ?_, fun j => ?_, fun j => ?_, fun j => ?_, i_lat⟩
  · show (if 202 = 202 ∧ j = 10 * p + zN σ 133 p then mk else zN σ 202 j) < 2
    split
    · exact hm
    · exact i_mk _
  · have hq : zN σ 1595 0 ≤ q := hq
    refine ⟨(i_hc0 q hq).1, ?_⟩
    show (if 133 = 133 ∧ q = p then zN σ 133 p + 1 else zN σ 133 q) = 0
    rw [if_neg (by omega)]
    exact (i_hc0 q hq).2
  · show (if 133 = 133 ∧ q = p then zN σ 133 p + 1 else zN σ 133 q) ≤ 10
    split
    · omega
    · exact i_kpn q
  · show (if 136 = 136 ∧ j = 10 * p + zN σ 133 p then L else zN σ 136 j) ≤ 21
    split
    · exact hL
    · exact i_kmn _
  · show (if 134 = 134 ∧ j = 10 * p + zN σ 133 p then i else zN σ 134 j) < 12
    split
    · exact hi
    · exact i_kof _
  · show (if 135 = 135 ∧ j = 10 * p + zN σ 133 p then num else zN σ 135 j) < 64
    split
    · exact hn
    · exact i_knu _
theorem zap_P4 (hI : zI σ) (h4 : zP4 τ σ o) (hp : p < zN σ 1595 0) (hk : zN σ 133 p < 10) {i num mk L : Nat} {f sg : Nat → Int32} (hL : L ≤ 21) (hf : ∀ s, s < L → f s = sg s) : zP4 (zapT τ p (10 * p + (o p + zN σ 133 p) % 10) (zN σ 133 p + 1) i num mk L f) (zapF σ p i num mk L sg) o := by
  have hn : ∀ q, zN (zapF σ p i num mk L sg) 133 q = if 133 = 133 ∧ q = p then zN σ 133 p + 1 else zN σ 133 q := fun q => rfl
  have i1 := zI_kpn hI
  have i2 := zI_kmn hI
  obtain ⟨p4_a, p4_sa, p4_sl, p4_sr, p4_r, p4_o, p4_ol, p4_n, p4_id, p4_nu, p4_mk, p4_sn, p4_sg⟩ := h4
  have op := p4_o p hp
  refine ⟨p4_a, p4_sa, p4_sl, p4_sr, p4_r, p4_o, fun q hq => ?_, fun q hq => ?_, fun q j hq hj => ?_, fun q j hq hj => ?_, fun q j hq hj => ?_, fun q j hq hj => ?_, fun q j s hq hj hs => ?_⟩
  · exact p4_ol q hq
  · have hq : q < zN σ 1595 0 := hq
    unfold zapT
    rw [hn, zb_I_sFn _ (by decide), zb_I_ne _ (by decide), zb_I_ne _ (by decide), zb_I_ne _ (by decide), zb_I_ne _ (by decide), zb_I_sI]
    by_cases hz : q = p
    · rw [if_pos ⟨rfl, hz, rfl⟩, if_pos ⟨rfl, hz⟩]
    · rw [if_neg (fun z => hz z.2.1), if_neg (fun z => hz z.2)]
      exact p4_n q hq
  · have hq : q < zN σ 1595 0 := hq
    rw [hn] at hj
    unfold zapT
    show _ = nI (if 134 = 134 ∧ 10 * q + j = 10 * p + zN σ 133 p then i else zN σ 134 (10 * q + j))
    rw [zb_I_sFn _ (by decide), zb_I_ne _ (by decide), zb_I_ne _ (by decide), zb_I_ne _ (by decide), zb_I_sI]
    by_cases hz : q = p ∧ j = zN σ 133 p
    · rw [if_pos ⟨rfl, by rw [hz.1, hz.2], rfl⟩, if_pos ⟨rfl, by omega⟩]
    · have hj2 : j < zN σ 133 q := by
        by_cases hy : q = p
        · rw [if_pos ⟨rfl, hy⟩] at hj
          subst hy
          omega
        · rw [if_neg (fun z => hy z.2)] at hj
          exact hj
      have := i1 q
      have oq := p4_o q hq
      have ne : ¬ 10 * q + (o q + j) % 10 = 10 * p + (o p + zN σ 133 p) % 10 := by
        intro z
        have e : q = p := by omega
        subst e
        omega
      rw [if_neg (fun z => ne z.2.1), if_neg (by
        rintro ⟨-, z⟩
        have e : q = p := by omega
        subst e
        omega), zb_I_ne _ (by decide)]
      exact p4_id q j hq hj2
  · have hq : q < zN σ 1595 0 := hq
    rw [hn] at hj
    unfold zapT
    show _ = nI (if 135 = 135 ∧ 10 * q + j = 10 * p + zN σ 133 p then num else zN σ 135 (10 * q + j))
    rw [zb_I_sFn _ (by decide), zb_I_ne _ (by decide), zb_I_ne _ (by decide), zb_I_sI]
    by_cases hz : q = p ∧ j = zN σ 133 p
    · rw [if_pos ⟨rfl, by rw [hz.1, hz.2], rfl⟩, if_pos ⟨rfl, by omega⟩]
    · have hj2 : j < zN σ 133 q := by
        by_cases hy : q = p
        · rw [if_pos ⟨rfl, hy⟩] at hj
          subst hy
          omega
        · rw [if_neg (fun z => hy z.2)] at hj
          exact hj
      have := i1 q
      have oq := p4_o q hq
      have ne : ¬ 10 * q + (o q + j) % 10 = 10 * p + (o p + zN σ 133 p) % 10 := by
        intro z
        have e : q = p := by omega
        subst e
        omega
      rw [if_neg (fun z => ne z.2.1), if_neg (by
        rintro ⟨-, z⟩
        have e : q = p := by omega
        subst e
        omega), zb_I_ne _ (by decide), zb_I_ne _ (by decide)]
      exact p4_nu q j hq hj2
  · have hq : q < zN σ 1595 0 := hq
    rw [hn] at hj
    unfold zapT
    show _ = nI (if 202 = 202 ∧ 10 * q + j = 10 * p + zN σ 133 p then mk else zN σ 202 (10 * q + j))
    rw [zb_I_sFn _ (by decide), zb_I_ne _ (by decide), zb_I_sI]
    by_cases hz : q = p ∧ j = zN σ 133 p
    · rw [if_pos ⟨rfl, by rw [hz.1, hz.2], rfl⟩, if_pos ⟨rfl, by omega⟩]
    · have hj2 : j < zN σ 133 q := by
        by_cases hy : q = p
        · rw [if_pos ⟨rfl, hy⟩] at hj
          subst hy
          omega
        · rw [if_neg (fun z => hy z.2)] at hj
          exact hj
      have := i1 q
      have oq := p4_o q hq
      have ne : ¬ 10 * q + (o q + j) % 10 = 10 * p + (o p + zN σ 133 p) % 10 := by
        intro z
        have e : q = p := by omega
        subst e
        omega
      rw [if_neg (fun z => ne z.2.1), if_neg (by
        rintro ⟨-, z⟩
        have e : q = p := by omega
        subst e
        omega), zb_I_ne _ (by decide), zb_I_ne _ (by decide), zb_I_ne _ (by decide)]
      exact p4_mk q j hq hj2
  · have hq : q < zN σ 1595 0 := hq
    rw [hn] at hj
    unfold zapT
    show _ = nI (if 136 = 136 ∧ 10 * q + j = 10 * p + zN σ 133 p then L else zN σ 136 (10 * q + j))
    rw [zb_I_sFn _ (by decide), zb_I_sI]
    by_cases hz : q = p ∧ j = zN σ 133 p
    · rw [if_pos ⟨rfl, by rw [hz.1, hz.2], rfl⟩, if_pos ⟨rfl, by omega⟩]
    · have hj2 : j < zN σ 133 q := by
        by_cases hy : q = p
        · rw [if_pos ⟨rfl, hy⟩] at hj
          subst hy
          omega
        · rw [if_neg (fun z => hy z.2)] at hj
          exact hj
      have := i1 q
      have oq := p4_o q hq
      have ne : ¬ 10 * q + (o q + j) % 10 = 10 * p + (o p + zN σ 133 p) % 10 := by
        intro z
        have e : q = p := by omega
        subst e
        omega
      rw [if_neg (fun z => ne z.2.1), if_neg (by
        rintro ⟨-, z⟩
        have e : q = p := by omega
        subst e
        omega), zb_I_ne _ (by decide), zb_I_ne _ (by decide), zb_I_ne _ (by decide), zb_I_ne _ (by decide)]
      exact p4_sn q j hq hj2
  · have hq : q < zN σ 1595 0 := hq
    rw [hn] at hj
    have hs : s < (if 136 = 136 ∧ 10 * q + j = 10 * p + zN σ 133 p then L else zN σ 136 (10 * q + j)) := hs
    unfold zapT
    show _ = if 137 = 137 ∧ 22 * (10 * p + zN σ 133 p) ≤ 22 * (10 * q + j) + s ∧ 22 * (10 * q + j) + s < 22 * (10 * p + zN σ 133 p) + L then sg (22 * (10 * q + j) + s - 22 * (10 * p + zN σ 133 p)) else zJ σ 137 (22 * (10 * q + j) + s)
    by_cases hz : q = p ∧ j = zN σ 133 p
    · have e1 : 10 * q + j = 10 * p + zN σ 133 p := by omega
      rw [if_pos ⟨rfl, e1⟩] at hs
      rw [e1, if_pos (by omega), show 22 * (10 * p + zN σ 133 p) + s - 22 * (10 * p + zN σ 133 p) = s by omega, ← hf s hs, hz.1, hz.2, zb_I_sF]
    · have hj2 : j < zN σ 133 q := by
        by_cases hy : q = p
        · rw [if_pos ⟨rfl, hy⟩] at hj
          subst hy
          omega
        · rw [if_neg (fun z => hy z.2)] at hj
          exact hj
      have := i1 q
      have oq := p4_o q hq
      have ny : ¬ 10 * q + j = 10 * p + zN σ 133 p := by
        intro z
        have e : q = p := by omega
        subst e
        omega
      have ne : ¬ 10 * q + (o q + j) % 10 = 10 * p + (o p + zN σ 133 p) % 10 := by
        intro z
        have e : q = p := by omega
        subst e
        omega
      rw [if_neg (fun z => ny z.2)] at hs
      have := i2 (10 * q + j)
      rw [if_neg (by omega), zb_I_sFi _ ne, zb_I_ne _ (by decide), zb_I_ne _ (by decide), zb_I_ne _ (by decide), zb_I_ne _ (by decide), zb_I_ne _ (by decide)]
      exact p4_sg q j s hq hj2 hs
end ZH4
