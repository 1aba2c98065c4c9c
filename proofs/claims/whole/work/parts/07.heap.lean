/-! Functions of mine: what an instruction does to a memory; none where the machine would throw -/
def zf_at {ρ : Type} (w : zw_T) (kd : Nat) (o : Option Nat) (K : Nat → Option ρ) : Option ρ := match o with
  | none => none
  | some a => if (zw_ty w a).1 = kd then K a else none
def zf_ix {ρ : Type} (w : zw_T) (kd : Nat) (o : Option Nat) (i : Int32) (K : Nat → Nat → Option ρ) : Option ρ := match o with
  | none => none
  | some a => if (zw_ty w a).1 = kd ∧ ¬ i < 0 ∧ i.toNatClampNeg < (zw_ty w a).2 then K a i.toNatClampNeg else none
def zf_tr {ρ : Type} (i : Int32) (K : Int32 → Option ρ) : Option ρ := if ¬ i < 0 ∧ i.toNatClampNeg < 32 then K (zs_tr i.toNatClampNeg) else none
def zf_na {ρ : Type} (bd : Nat) (w : zw_T) (kd : Nat) (n : Int32) (K : zw_T → Option ρ) : Option ρ := if ¬ n < 0 ∧ n.toNatClampNeg ≤ bd then K (zw_new w kd n.toNatClampNeg) else none
def zf_b {ρ : Type} (x : Int32) (K : Option ρ) : Option ρ := if x = 0 ∨ x = 1 then K else none
def zf_nz {ρ : Type} (x : Int32) (K : Option ρ) : Option ρ := if x = 0 then none else K
def zf_bd {α ρ : Type} (o : Option (α × zw_T)) (K : α → zw_T → Option ρ) : Option ρ := match o with
  | none => none
  | some q => K q.1 q.2
def zf_bv {ρ : Type} (o : Option zw_T) (K : zw_T → Option ρ) : Option ρ := match o with
  | none => none
  | some q => K q
def zf_cl {ρ : Type} (w : zw_T) (k0 k1 : Nat) (o : Option Nat) (K : zw_T → Option ρ) : Option ρ := match o with
  | some a => if (zw_ty w a).1 = k0 ∧ (zw_ty w a).2 ≤ 128 then K (zw_sF (zw_new w k1 (zw_ty w a).2) k1 (zw_n w) (zw_I w k0 a)) else none
  | none => none
def zf_cp {ρ : Type} (w : zw_T) (k0 k1 : Nat) (o0 : Option Nat) (sp : Int32) (o1 : Option Nat) (dp n : Int32) (K : zw_T → Option ρ) : Option ρ := match o0, o1 with
  | some a, some b => if (zw_ty w a).1 = k0 ∧ (zw_ty w b).1 = k1 ∧ ¬ sp < 0 ∧ ¬ dp < 0 ∧ ¬ n < 0 ∧ sp.toNatClampNeg + n.toNatClampNeg ≤ (zw_ty w a).2 ∧ dp.toNatClampNeg + n.toNatClampNeg ≤ (zw_ty w b).2 then K (zw_sF w k1 b (va_cpy (zw_I w k0 a) (zw_I w k1 b) sp.toNatClampNeg dp.toNatClampNeg n.toNatClampNeg)) else none
  | _, _ => none
theorem zf_at_e {ρ : Type} {w : zw_T} {kd : Nat} {o : Option Nat} {K : Nat → Option ρ} {r : ρ} (h : zf_at w kd o K = some r) : ∃ a, o = some a ∧ (zw_ty w a).1 = kd ∧ K a = some r := by
  unfold zf_at at h
  cases o with
  | none => cases h
  | some a =>
    by_cases hq : (zw_ty w a).1 = kd
    · simp only [if_pos hq] at h
      exact ⟨a, rfl, hq, h⟩
    · simp only [if_neg hq] at h
      cases h
theorem zf_ix_e {ρ : Type} {w : zw_T} {kd : Nat} {o : Option Nat} {i : Int32} {K : Nat → Nat → Option ρ} {r : ρ} (h : zf_ix w kd o i K = some r) : ∃ a, o = some a ∧ (zw_ty w a).1 = kd ∧ ¬ i < 0 ∧ i.toNatClampNeg < (zw_ty w a).2 ∧ K a i.toNatClampNeg = some r := by
  unfold zf_ix at h
  cases o with
  | none => cases h
  | some a =>
    by_cases hq : (zw_ty w a).1 = kd ∧ ¬ i < 0 ∧ i.toNatClampNeg < (zw_ty w a).2
    · simp only [if_pos hq] at h
      exact ⟨a, rfl, hq.1, hq.2.1, hq.2.2, h⟩
    · simp only [if_neg hq] at h
      cases h
theorem zf_bd_e {α ρ : Type} {o : Option (α × zw_T)} {K : α → zw_T → Option ρ} {r : ρ} (h : zf_bd o K = some r) : ∃ (v : α) (w : zw_T), o = some (v, w) ∧ K v w = some r := by
  unfold zf_bd at h
  cases o with
  | none => cases h
  | some q => exact ⟨q.1, q.2, rfl, h⟩
theorem zf_bv_e {ρ : Type} {o : Option zw_T} {K : zw_T → Option ρ} {r : ρ} (h : zf_bv o K = some r) : ∃ w : zw_T, o = some w ∧ K w = some r := by
  unfold zf_bv at h
  cases o with
  | none => cases h
  | some q => exact ⟨q, rfl, h⟩
theorem zf_nz_e {ρ : Type} {x : Int32} {K : Option ρ} {r : ρ} (h : zf_nz x K = some r) : ¬ x = 0 ∧ K = some r := by
  unfold zf_nz at h
  by_cases hq : x = 0
  · rw [if_pos hq] at h
    cases h
  · rw [if_neg hq] at h
    exact ⟨hq, h⟩
theorem zf_b_e {ρ : Type} {x : Int32} {K : Option ρ} {r : ρ} (h : zf_b x K = some r) : (x = 0 ∨ x = 1) ∧ K = some r := by
  unfold zf_b at h
  by_cases hq : x = 0 ∨ x = 1
  · rw [if_pos hq] at h
    exact ⟨hq, h⟩
  · rw [if_neg hq] at h
    cases h
theorem zf_b_n {x : Int32} (h : x = 0 ∨ x = 1) : narrow .boolean (.int x) = .int x ∧ fits .boolean (.int x) = true := by
  rcases h with rfl | rfl <;> exact ⟨by decide, by decide⟩
theorem zw_nf_of {ci N : Nat} {C : String} {T : u_T} (hc : vwCl[ci]? = some (C, T, N)) : zw_nf ci = N := by
  unfold zw_nf
  rw [hc]
theorem zb_in {i : Int32} {n : Nat} (h0 : ¬ i < 0) (h5 : i.toNatClampNeg < n) : vp_in i n := by
  intro q
  rcases q with q | q
  · exact h0 q
  · omega
theorem zg_getI {X : zg_X} {D : va_G} {G : zw_G} {A : Nat → Prop} {Q : State → Prop} {sf ck : Nat} {w : zw_T} {pc : Nat} {lv : List (Option Value)} {st : List Value} {cc : ByteArray} {own : String} {nL fr lo mc : Nat} {ci k idx N : Nat} {C : String} {T : u_T} (hc : vwCl[ci]? = some (C, T, N)) (hk : k < N) (hci : ci < 99) (hin : ∀ q ∈ u_ws C T N, q ∈ zT) (hlink : Cond.fieldLink own idx (T k).1 (T k).2.1 (T k).2.2.1 ∈ zT) (ht : zw_ft ci k = 0) {o : Option Nat} {ρ : Type} {r : ρ} {K : Nat → Option ρ} (hX : zg_ok X cc own nL fr lo sf mc D G A) (hd : decode cc pc = .ok (.getfield idx, 3)) (h : zf_at w (ci + 1) o K = some r) (kk : ∀ a, K a = some r → zg X D G A Q sf ck w (pc + 3) lv (.int (zw_I w (1000 + 64 * ci + k) a 0) :: st)) : zg X D G A Q sf ck w pc lv (va_rf o :: st) := by
  obtain ⟨a, rfl, ht', h⟩ := zf_at_e h
  obtain ⟨p, l, e, R, s, m, args, below, meth, c⟩ := X
  obtain ⟨hx, hb, hml, ho, hts, hK, hA, hlk, hfr, hR1, hR2, hlo, hZ⟩ := hX
  intro H locs ls h1 h2 h3
  have hv := (h2.2 a (by rw [ht']; omega)).1
  rw [zw_cell_o ht' hci] at hv
  exact va_get hx hb hts hin ho hK (zw_one hv) 0 rfl hc k hk (hts _ hlink) (fun _ q => q) (v := .int (zw_I w (1000 + 64 * ci + k) a 0)) (by rw [zw_fs_at (by rw [zw_nf_of hc]; exact hk), ht]; rfl) hd (kk a h H locs ls h1 h2 h3)
theorem zg_getR {X : zg_X} {D : va_G} {G : zw_G} {A : Nat → Prop} {Q : State → Prop} {sf ck : Nat} {w : zw_T} {pc : Nat} {lv : List (Option Value)} {st : List Value} {cc : ByteArray} {own : String} {nL fr lo mc : Nat} {ci k idx N : Nat} {C : String} {T : u_T} (hc : vwCl[ci]? = some (C, T, N)) (hk : k < N) (hci : ci < 99) (hin : ∀ q ∈ u_ws C T N, q ∈ zT) (hlink : Cond.fieldLink own idx (T k).1 (T k).2.1 (T k).2.2.1 ∈ zT) (ht : zw_ft ci k = 1) {o : Option Nat} {ρ : Type} {r : ρ} {K : Nat → Option ρ} (hX : zg_ok X cc own nL fr lo sf mc D G A) (hd : decode cc pc = .ok (.getfield idx, 3)) (h : zf_at w (ci + 1) o K = some r) (kk : ∀ a, K a = some r → zg X D G A Q sf ck w (pc + 3) lv (va_rf (zw_R w (1000 + 64 * ci + k) a 0) :: st)) : zg X D G A Q sf ck w pc lv (va_rf o :: st) := by
  obtain ⟨a, rfl, ht', h⟩ := zf_at_e h
  obtain ⟨p, l, e, R, s, m, args, below, meth, c⟩ := X
  obtain ⟨hx, hb, hml, ho, hts, hK, hA, hlk, hfr, hR1, hR2, hlo, hZ⟩ := hX
  intro H locs ls h1 h2 h3
  have hv := (h2.2 a (by rw [ht']; omega)).1
  rw [zw_cell_o ht' hci] at hv
  exact va_get hx hb hts hin ho hK (zw_one hv) 0 rfl hc k hk (hts _ hlink) (fun _ q => q) (v := va_rf (zw_R w (1000 + 64 * ci + k) a 0)) (by rw [zw_fs_at (by rw [zw_nf_of hc]; exact hk), ht]; rfl) hd (kk a h H locs ls h1 h2 h3)
theorem zg_getL {X : zg_X} {D : va_G} {G : zw_G} {A : Nat → Prop} {Q : State → Prop} {sf ck : Nat} {w : zw_T} {pc : Nat} {lv : List (Option Value)} {st : List Value} {cc : ByteArray} {own : String} {nL fr lo mc : Nat} {ci k idx N : Nat} {C : String} {T : u_T} (hc : vwCl[ci]? = some (C, T, N)) (hk : k < N) (hci : ci < 99) (hin : ∀ q ∈ u_ws C T N, q ∈ zT) (hlink : Cond.fieldLink own idx (T k).1 (T k).2.1 (T k).2.2.1 ∈ zT) (ht : zw_ft ci k = 2) {o : Option Nat} {ρ : Type} {r : ρ} {K : Nat → Option ρ} (hX : zg_ok X cc own nL fr lo sf mc D G A) (hd : decode cc pc = .ok (.getfield idx, 3)) (h : zf_at w (ci + 1) o K = some r) (kk : ∀ a, K a = some r → zg X D G A Q sf ck w (pc + 3) lv (.long (zw_L w (1000 + 64 * ci + k) a 0) :: st)) : zg X D G A Q sf ck w pc lv (va_rf o :: st) := by
  obtain ⟨a, rfl, ht', h⟩ := zf_at_e h
  obtain ⟨p, l, e, R, s, m, args, below, meth, c⟩ := X
  obtain ⟨hx, hb, hml, ho, hts, hK, hA, hlk, hfr, hR1, hR2, hlo, hZ⟩ := hX
  intro H locs ls h1 h2 h3
  have hv := (h2.2 a (by rw [ht']; omega)).1
  rw [zw_cell_o ht' hci] at hv
  exact va_get hx hb hts hin ho hK (zw_one hv) 0 rfl hc k hk (hts _ hlink) (fun _ q => q) (v := .long (zw_L w (1000 + 64 * ci + k) a 0)) (by rw [zw_fs_at (by rw [zw_nf_of hc]; exact hk), ht]; rfl) hd (kk a h H locs ls h1 h2 h3)
theorem zg_putx {X : zg_X} {D : va_G} {G : zw_G} {A : Nat → Prop} {Q : State → Prop} {sf ck : Nat} {w : zw_T} {pc : Nat} {lv : List (Option Value)} {st : List Value} {cc : ByteArray} {own : String} {nL fr lo mc : Nat} {ci k idx N : Nat} {C : String} {T : u_T} (hc : vwCl[ci]? = some (C, T, N)) (hk : k < N) (hci : ci < 99) (hin : ∀ q ∈ u_ws C T N, q ∈ zT) (hlink : Cond.fieldLink own idx (T k).1 (T k).2.1 (T k).2.2.1 ∈ zT) (ty0 : Nat → FieldType) (hty : ∀ k, k < N → parseFieldDescriptor (T k).2.2.1 = some (ty0 k)) (hnm : ∀ a, a < N → ∀ b, b < N → a ≠ b → (T a).2.1 ≠ (T b).2.1) (hfin : (T k).2.2.2 = false) {v : Value} {a : Nat} (w' : zw_T) (hn : narrow (ty0 k) v = v) (hfit : fits (ty0 k) v = true) (ha : (zw_ty w a).1 = ci + 1) (hw1 : zw_ty w' = zw_ty w) (hw2 : zw_n w' = zw_n w) (hw3 : ∀ b, b ≠ a → zw_cell G w' b = zw_cell G w b) (hw4 : zw_fs w' ci a = (zw_fs w ci a).set k v) (hX : zg_ok X cc own nL fr lo sf mc D G A) (hd : decode cc pc = .ok (.putfield idx, 3)) (kk : zg X D G A Q sf ck w' (pc + 3) lv st) : zg X D G A Q sf ck w pc lv (v :: .ref a :: st) := by
  obtain ⟨p, l, e, R, s, m, args, below, meth, c⟩ := X
  obtain ⟨hx, hb, hml, ho, hts, hK, hA, hlk, hfr, hR1, hR2, hlo, hZ⟩ := hX
  intro H locs ls h1 h2 h3
  have hv := h2.2 a (by rw [ha]; omega)
  have hAa := hv.2
  have hv := hv.1
  rw [zw_cell_o ha hci] at hv
  have hap := va_apart (own := own) hts hin ty0 hty hnm hK hc
  obtain ⟨r, g1, cell, q1, q2, q3, q4⟩ := hv
  have hr : r = (C, T, N) := Option.some.inj (g1.symm.trans hc)
  subst hr
  obtain ⟨hS, hfc, kC, hkC, hkind⟩ := hK.1 ci _ hc
  obtain ⟨cf, kf, fi, f, hi, hsl⟩ := hS k hk
  have hlay := hts _ (hin _ (u_in_lay hk))
  unfold u_lay at hlay
  rw [if_neg (by rw [hfin]; decide)] at hlay
  have hst := (u_facts hfc hkC (u_lays hts hin hk) hi).1
  have h6 := u_store hfc hkC hkind hlay hi (hty k hk) hn hfit
  refine W.putK hx hb (f := f) ⟨ho, hts _ hlink, ⟨_, _, _, hi⟩, hst⟩ (by rw [q2]; exact h6) q1 q3 (by rw [hsl]; exact k2_hasslot (q4 k hk)) rfl rfl hd fun H' e1 e2 e3 => ?_
  rw [hsl] at e1 ⊢
  refine kk H' _ ls h1 (zw_move h2 hw1 hw2 hw3 ?_ e2 e3) (h3.put e2 e3 hAa)
  rw [zw_cell_o (by rw [hw1]; exact ha) hci, hw4]
  exact ⟨_, hc, t_OB.to (V := updV (vp_V (zw_fs w ci a)) k v) ⟨_, e1, q2, q3, t_set q4 hap hk v⟩ (fun j _ => vp_updV_set (by rw [zw_fs_len, zw_nf_of hc]; exact hk) v j)⟩
theorem zg_pfix {X : zg_X} {D : va_G} {G : zw_G} {A : Nat → Prop} {Q : State → Prop} {sf ck : Nat} {w : zw_T} {pc : Nat} {lv : List (Option Value)} {st : List Value} {cc : ByteArray} {own : String} {nL fr lo mc : Nat} {ci k idx N : Nat} {C : String} {T : u_T} (hc : vwCl[ci]? = some (C, T, N)) (hk : k < N) (hci : ci < 99) (hin : ∀ q ∈ u_ws C T N, q ∈ zT) (hlink : Cond.fieldLink own idx (T k).1 (T k).2.1 (T k).2.2.1 ∈ zT) (ty0 : Nat → FieldType) (hty : ∀ k, k < N → parseFieldDescriptor (T k).2.2.1 = some (ty0 k)) (hnm : ∀ a, a < N → ∀ b, b < N → a ≠ b → (T a).2.1 ≠ (T b).2.1) (hfin : (T k).2.2.2 = true) (hnm2 : zg_nm X = "<init>") (hdecl : (T k).1 = own) {v : Value} {a : Nat} (w' : zw_T) (hn : narrow (ty0 k) v = v) (hfit : fits (ty0 k) v = true) (ha : (zw_ty w a).1 = ci + 1) (hw1 : zw_ty w' = zw_ty w) (hw2 : zw_n w' = zw_n w) (hw3 : ∀ b, b ≠ a → zw_cell G w' b = zw_cell G w b) (hw4 : zw_fs w' ci a = (zw_fs w ci a).set k v) (hX : zg_ok X cc own nL fr lo sf mc D G A) (hd : decode cc pc = .ok (.putfield idx, 3)) (kk : zg X D G A Q sf ck w' (pc + 3) lv st) : zg X D G A Q sf ck w pc lv (v :: .ref a :: st) := by
  obtain ⟨p, l, e, R, s, m, args, below, meth, c⟩ := X
  obtain ⟨hx, hb, hml, ho, hts, hK, hA, hlk, hfr, hR1, hR2, hlo, hZ⟩ := hX
  intro H locs ls h1 h2 h3
  have hv := h2.2 a (by rw [ha]; omega)
  have hAa := hv.2
  have hv := hv.1
  rw [zw_cell_o ha hci] at hv
  have hap := va_apart (own := own) hts hin ty0 hty hnm hK hc
  obtain ⟨r, g1, cell, q1, q2, q3, q4⟩ := hv
  have hr : r = (C, T, N) := Option.some.inj (g1.symm.trans hc)
  subst hr
  obtain ⟨hS, hfc, kC, hkC, hkind⟩ := hK.1 ci _ hc
  obtain ⟨cf, kf, fi, f, hi, hsl⟩ := hS k hk
  have hlay := hts _ (hin _ (u_in_lay hk))
  unfold u_lay at hlay
  rw [if_pos hfin] at hlay
  have hst := (u_facts hfc hkC (u_lays hts hin hk) hi).1
  have hcf : m.cls = cf := by
    obtain ⟨_, _, c', _, _, _, -, -, hf', -, -, -, hown2, -⟩ := Cond.laysFinal_spec hlay
    have e1 : c' = cf := by have := hi.symm.trans hf'; simp at this; exact this.1.symm
    rw [hdecl] at hown2
    rw [← e1]; exact Option.some.inj (ho.symm.trans hown2)
  have h6 := u_fits hfc hkC hkind (Or.inr hlay) hi (hty k hk) hn hfit
  refine W.putFinK hx hb ho (hts _ hlink) hi hst hcf hnm2 (by rw [q2]; exact h6) q1 q3 (by rw [hsl]; exact k2_hasslot (q4 k hk)) rfl rfl hd fun H' e1 e2 e3 => ?_
  rw [hsl] at e1 ⊢
  refine kk H' _ ls h1 (zw_move h2 hw1 hw2 hw3 ?_ e2 e3) (h3.put e2 e3 hAa)
  rw [zw_cell_o (by rw [hw1]; exact ha) hci, hw4]
  exact ⟨_, hc, t_OB.to (V := updV (vp_V (zw_fs w ci a)) k v) ⟨_, e1, q2, q3, t_set q4 hap hk v⟩ (fun j _ => vp_updV_set (by rw [zw_fs_len, zw_nf_of hc]; exact hk) v j)⟩
theorem zg_putI {X : zg_X} {D : va_G} {G : zw_G} {A : Nat → Prop} {Q : State → Prop} {sf ck : Nat} {w : zw_T} {pc : Nat} {lv : List (Option Value)} {st : List Value} {cc : ByteArray} {own : String} {nL fr lo mc : Nat} {ci k idx N : Nat} {C : String} {T : u_T} (hc : vwCl[ci]? = some (C, T, N)) (hk : k < N) (hci : ci < 99) (hin : ∀ q ∈ u_ws C T N, q ∈ zT) (hlink : Cond.fieldLink own idx (T k).1 (T k).2.1 (T k).2.2.1 ∈ zT) (ht : zw_ft ci k = 0) (ty0 : Nat → FieldType) (hty : ∀ k, k < N → parseFieldDescriptor (T k).2.2.1 = some (ty0 k)) (hnm : ∀ a, a < N → ∀ b, b < N → a ≠ b → (T a).2.1 ≠ (T b).2.1) (hfin : (T k).2.2.2 = false) {x : Int32} (hn : narrow (ty0 k) (.int x) = .int x) (hfit : fits (ty0 k) (.int x) = true) {o : Option Nat} {ρ : Type} {r : ρ} {K : zw_T → Option ρ} (hX : zg_ok X cc own nL fr lo sf mc D G A) (hd : decode cc pc = .ok (.putfield idx, 3)) (h : zf_at w (ci + 1) o (fun a => zf_let (zw_sI w (1000 + 64 * ci + k) a 0 x) K) = some r) (kk : ∀ w1, K w1 = some r → zg X D G A Q sf ck w1 (pc + 3) lv st) : zg X D G A Q sf ck w pc lv (.int x :: va_rf o :: st) := by
  obtain ⟨a, rfl, ht', h⟩ := zf_at_e h
  exact zg_putx hc hk hci hin hlink ty0 hty hnm hfin (zw_sI w (1000 + 64 * ci + k) a 0 x) hn hfit ht' rfl rfl (fun b hb => zw_sF_ne hb) (zw_fs_I (by rw [zw_nf_of hc]; exact hk) ht) hX hd (kk _ h)
theorem zg_pfiI {X : zg_X} {D : va_G} {G : zw_G} {A : Nat → Prop} {Q : State → Prop} {sf ck : Nat} {w : zw_T} {pc : Nat} {lv : List (Option Value)} {st : List Value} {cc : ByteArray} {own : String} {nL fr lo mc : Nat} {ci k idx N : Nat} {C : String} {T : u_T} (hc : vwCl[ci]? = some (C, T, N)) (hk : k < N) (hci : ci < 99) (hin : ∀ q ∈ u_ws C T N, q ∈ zT) (hlink : Cond.fieldLink own idx (T k).1 (T k).2.1 (T k).2.2.1 ∈ zT) (ht : zw_ft ci k = 0) (ty0 : Nat → FieldType) (hty : ∀ k, k < N → parseFieldDescriptor (T k).2.2.1 = some (ty0 k)) (hnm : ∀ a, a < N → ∀ b, b < N → a ≠ b → (T a).2.1 ≠ (T b).2.1) (hfin : (T k).2.2.2 = true) (hnm2 : zg_nm X = "<init>") (hdecl : (T k).1 = own) {x : Int32} (hn : narrow (ty0 k) (.int x) = .int x) (hfit : fits (ty0 k) (.int x) = true) {o : Option Nat} {ρ : Type} {r : ρ} {K : zw_T → Option ρ} (hX : zg_ok X cc own nL fr lo sf mc D G A) (hd : decode cc pc = .ok (.putfield idx, 3)) (h : zf_at w (ci + 1) o (fun a => zf_let (zw_sI w (1000 + 64 * ci + k) a 0 x) K) = some r) (kk : ∀ w1, K w1 = some r → zg X D G A Q sf ck w1 (pc + 3) lv st) : zg X D G A Q sf ck w pc lv (.int x :: va_rf o :: st) := by
  obtain ⟨a, rfl, ht', h⟩ := zf_at_e h
  exact zg_pfix hc hk hci hin hlink ty0 hty hnm hfin hnm2 hdecl (zw_sI w (1000 + 64 * ci + k) a 0 x) hn hfit ht' rfl rfl (fun b hb => zw_sF_ne hb) (zw_fs_I (by rw [zw_nf_of hc]; exact hk) ht) hX hd (kk _ h)
theorem zg_putR {X : zg_X} {D : va_G} {G : zw_G} {A : Nat → Prop} {Q : State → Prop} {sf ck : Nat} {w : zw_T} {pc : Nat} {lv : List (Option Value)} {st : List Value} {cc : ByteArray} {own : String} {nL fr lo mc : Nat} {ci k idx N : Nat} {C : String} {T : u_T} (hc : vwCl[ci]? = some (C, T, N)) (hk : k < N) (hci : ci < 99) (hin : ∀ q ∈ u_ws C T N, q ∈ zT) (hlink : Cond.fieldLink own idx (T k).1 (T k).2.1 (T k).2.2.1 ∈ zT) (ht : zw_ft ci k = 1) (ty0 : Nat → FieldType) (hty : ∀ k, k < N → parseFieldDescriptor (T k).2.2.1 = some (ty0 k)) (hnm : ∀ a, a < N → ∀ b, b < N → a ≠ b → (T a).2.1 ≠ (T b).2.1) (hfin : (T k).2.2.2 = false) {x : Option Nat} (hn : narrow (ty0 k) (va_rf x) = va_rf x) (hfit : fits (ty0 k) (va_rf x) = true) {o : Option Nat} {ρ : Type} {r : ρ} {K : zw_T → Option ρ} (hX : zg_ok X cc own nL fr lo sf mc D G A) (hd : decode cc pc = .ok (.putfield idx, 3)) (h : zf_at w (ci + 1) o (fun a => zf_let (zw_sR w (1000 + 64 * ci + k) a 0 x) K) = some r) (kk : ∀ w1, K w1 = some r → zg X D G A Q sf ck w1 (pc + 3) lv st) : zg X D G A Q sf ck w pc lv (va_rf x :: va_rf o :: st) := by
  obtain ⟨a, rfl, ht', h⟩ := zf_at_e h
  exact zg_putx hc hk hci hin hlink ty0 hty hnm hfin (zw_sR w (1000 + 64 * ci + k) a 0 x) hn hfit ht' rfl rfl (fun b hb => zw_sR_ne hb) (zw_fs_R (by rw [zw_nf_of hc]; exact hk) ht) hX hd (kk _ h)
theorem zg_pfiR {X : zg_X} {D : va_G} {G : zw_G} {A : Nat → Prop} {Q : State → Prop} {sf ck : Nat} {w : zw_T} {pc : Nat} {lv : List (Option Value)} {st : List Value} {cc : ByteArray} {own : String} {nL fr lo mc : Nat} {ci k idx N : Nat} {C : String} {T : u_T} (hc : vwCl[ci]? = some (C, T, N)) (hk : k < N) (hci : ci < 99) (hin : ∀ q ∈ u_ws C T N, q ∈ zT) (hlink : Cond.fieldLink own idx (T k).1 (T k).2.1 (T k).2.2.1 ∈ zT) (ht : zw_ft ci k = 1) (ty0 : Nat → FieldType) (hty : ∀ k, k < N → parseFieldDescriptor (T k).2.2.1 = some (ty0 k)) (hnm : ∀ a, a < N → ∀ b, b < N → a ≠ b → (T a).2.1 ≠ (T b).2.1) (hfin : (T k).2.2.2 = true) (hnm2 : zg_nm X = "<init>") (hdecl : (T k).1 = own) {x : Option Nat} (hn : narrow (ty0 k) (va_rf x) = va_rf x) (hfit : fits (ty0 k) (va_rf x) = true) {o : Option Nat} {ρ : Type} {r : ρ} {K : zw_T → Option ρ} (hX : zg_ok X cc own nL fr lo sf mc D G A) (hd : decode cc pc = .ok (.putfield idx, 3)) (h : zf_at w (ci + 1) o (fun a => zf_let (zw_sR w (1000 + 64 * ci + k) a 0 x) K) = some r) (kk : ∀ w1, K w1 = some r → zg X D G A Q sf ck w1 (pc + 3) lv st) : zg X D G A Q sf ck w pc lv (va_rf x :: va_rf o :: st) := by
  obtain ⟨a, rfl, ht', h⟩ := zf_at_e h
  exact zg_pfix hc hk hci hin hlink ty0 hty hnm hfin hnm2 hdecl (zw_sR w (1000 + 64 * ci + k) a 0 x) hn hfit ht' rfl rfl (fun b hb => zw_sR_ne hb) (zw_fs_R (by rw [zw_nf_of hc]; exact hk) ht) hX hd (kk _ h)
theorem zg_putL {X : zg_X} {D : va_G} {G : zw_G} {A : Nat → Prop} {Q : State → Prop} {sf ck : Nat} {w : zw_T} {pc : Nat} {lv : List (Option Value)} {st : List Value} {cc : ByteArray} {own : String} {nL fr lo mc : Nat} {ci k idx N : Nat} {C : String} {T : u_T} (hc : vwCl[ci]? = some (C, T, N)) (hk : k < N) (hci : ci < 99) (hin : ∀ q ∈ u_ws C T N, q ∈ zT) (hlink : Cond.fieldLink own idx (T k).1 (T k).2.1 (T k).2.2.1 ∈ zT) (ht : zw_ft ci k = 2) (ty0 : Nat → FieldType) (hty : ∀ k, k < N → parseFieldDescriptor (T k).2.2.1 = some (ty0 k)) (hnm : ∀ a, a < N → ∀ b, b < N → a ≠ b → (T a).2.1 ≠ (T b).2.1) (hfin : (T k).2.2.2 = false) {x : Int64} (hn : narrow (ty0 k) (.long x) = .long x) (hfit : fits (ty0 k) (.long x) = true) {o : Option Nat} {ρ : Type} {r : ρ} {K : zw_T → Option ρ} (hX : zg_ok X cc own nL fr lo sf mc D G A) (hd : decode cc pc = .ok (.putfield idx, 3)) (h : zf_at w (ci + 1) o (fun a => zf_let (zw_sL w (1000 + 64 * ci + k) a 0 x) K) = some r) (kk : ∀ w1, K w1 = some r → zg X D G A Q sf ck w1 (pc + 3) lv st) : zg X D G A Q sf ck w pc lv (.long x :: va_rf o :: st) := by
  obtain ⟨a, rfl, ht', h⟩ := zf_at_e h
  exact zg_putx hc hk hci hin hlink ty0 hty hnm hfin (zw_sL w (1000 + 64 * ci + k) a 0 x) hn hfit ht' rfl rfl (fun b hb => zw_sL_ne hb) (zw_fs_L (by rw [zw_nf_of hc]; exact hk) ht) hX hd (kk _ h)
theorem zg_pfiL {X : zg_X} {D : va_G} {G : zw_G} {A : Nat → Prop} {Q : State → Prop} {sf ck : Nat} {w : zw_T} {pc : Nat} {lv : List (Option Value)} {st : List Value} {cc : ByteArray} {own : String} {nL fr lo mc : Nat} {ci k idx N : Nat} {C : String} {T : u_T} (hc : vwCl[ci]? = some (C, T, N)) (hk : k < N) (hci : ci < 99) (hin : ∀ q ∈ u_ws C T N, q ∈ zT) (hlink : Cond.fieldLink own idx (T k).1 (T k).2.1 (T k).2.2.1 ∈ zT) (ht : zw_ft ci k = 2) (ty0 : Nat → FieldType) (hty : ∀ k, k < N → parseFieldDescriptor (T k).2.2.1 = some (ty0 k)) (hnm : ∀ a, a < N → ∀ b, b < N → a ≠ b → (T a).2.1 ≠ (T b).2.1) (hfin : (T k).2.2.2 = true) (hnm2 : zg_nm X = "<init>") (hdecl : (T k).1 = own) {x : Int64} (hn : narrow (ty0 k) (.long x) = .long x) (hfit : fits (ty0 k) (.long x) = true) {o : Option Nat} {ρ : Type} {r : ρ} {K : zw_T → Option ρ} (hX : zg_ok X cc own nL fr lo sf mc D G A) (hd : decode cc pc = .ok (.putfield idx, 3)) (h : zf_at w (ci + 1) o (fun a => zf_let (zw_sL w (1000 + 64 * ci + k) a 0 x) K) = some r) (kk : ∀ w1, K w1 = some r → zg X D G A Q sf ck w1 (pc + 3) lv st) : zg X D G A Q sf ck w pc lv (.long x :: va_rf o :: st) := by
  obtain ⟨a, rfl, ht', h⟩ := zf_at_e h
  exact zg_pfix hc hk hci hin hlink ty0 hty hnm hfin hnm2 hdecl (zw_sL w (1000 + 64 * ci + k) a 0 x) hn hfit ht' rfl rfl (fun b hb => zw_sL_ne hb) (zw_fs_L (by rw [zw_nf_of hc]; exact hk) ht) hX hd (kk _ h)
theorem zg_iald {X : zg_X} {D : va_G} {G : zw_G} {A : Nat → Prop} {Q : State → Prop} {sf ck : Nat} {w : zw_T} {pc : Nat} {lv : List (Option Value)} {st : List Value} {cc : ByteArray} {own : String} {nL fr lo mc : Nat} {kd : Nat} (hk1 : 100 ≤ kd) (hk2 : kd < 200) {o : Option Nat} {i : Int32} {ρ : Type} {r : ρ} {K : Nat → Nat → Option ρ} (hX : zg_ok X cc own nL fr lo sf mc D G A) (hd : decode cc pc = .ok (.iaload, 1)) (h : zf_ix w kd o i K = some r) (kk : ∀ a j, K a j = some r → zg X D G A Q sf ck w (pc + 1) lv (.int (zw_I w kd a j) :: st)) : zg X D G A Q sf ck w pc lv (.int i :: va_rf o :: st) := by
  obtain ⟨a, rfl, ht, h0, h5, h⟩ := zf_ix_e h
  obtain ⟨p, l, e, R, s, m, args, below, meth, c⟩ := X
  obtain ⟨hx, hb, hml, ho, hts, hK, hA, hlk, hfr, hR1, hR2, hlo, hZ⟩ := hX
  intro H locs ls h1 h2 h3
  have hv := (h2.2 a (by rw [ht]; omega)).1
  rw [zw_cell_i ht hk1 hk2] at hv
  exact va_iald hx hb hK (zw_one hv) 0 0 rfl rfl (zb_in h0 h5) hd (kk a _ h H locs ls h1 h2 h3)
theorem zg_zald {X : zg_X} {D : va_G} {G : zw_G} {A : Nat → Prop} {Q : State → Prop} {sf ck : Nat} {w : zw_T} {pc : Nat} {lv : List (Option Value)} {st : List Value} {cc : ByteArray} {own : String} {nL fr lo mc : Nat} {kd : Nat} (hk1 : 200 ≤ kd) (hk2 : kd < 300) {o : Option Nat} {i : Int32} {ρ : Type} {r : ρ} {K : Nat → Nat → Option ρ} (hX : zg_ok X cc own nL fr lo sf mc D G A) (hd : decode cc pc = .ok (.baload, 1)) (h : zf_ix w kd o i K = some r) (kk : ∀ a j, K a j = some r → zg X D G A Q sf ck w (pc + 1) lv (.int (zw_I w kd a j) :: st)) : zg X D G A Q sf ck w pc lv (.int i :: va_rf o :: st) := by
  obtain ⟨a, rfl, ht, h0, h5, h⟩ := zf_ix_e h
  obtain ⟨p, l, e, R, s, m, args, below, meth, c⟩ := X
  obtain ⟨hx, hb, hml, ho, hts, hK, hA, hlk, hfr, hR1, hR2, hlo, hZ⟩ := hX
  intro H locs ls h1 h2 h3
  have hv := (h2.2 a (by rw [ht]; omega)).1
  rw [zw_cell_z ht hk1 hk2] at hv
  exact va_zald hx hb hK (zw_one hv) 0 1 rfl rfl (zb_in h0 h5) hd (kk a _ h H locs ls h1 h2 h3)
theorem zg_lald {X : zg_X} {D : va_G} {G : zw_G} {A : Nat → Prop} {Q : State → Prop} {sf ck : Nat} {w : zw_T} {pc : Nat} {lv : List (Option Value)} {st : List Value} {cc : ByteArray} {own : String} {nL fr lo mc : Nat} {kd : Nat} (hk1 : 300 ≤ kd) (hk2 : kd < 400) {o : Option Nat} {i : Int32} {ρ : Type} {r : ρ} {K : Nat → Nat → Option ρ} (hX : zg_ok X cc own nL fr lo sf mc D G A) (hd : decode cc pc = .ok (.laload, 1)) (h : zf_ix w kd o i K = some r) (kk : ∀ a j, K a j = some r → zg X D G A Q sf ck w (pc + 1) lv (.long (zw_L w kd a j) :: st)) : zg X D G A Q sf ck w pc lv (.int i :: va_rf o :: st) := by
  obtain ⟨a, rfl, ht, h0, h5, h⟩ := zf_ix_e h
  obtain ⟨p, l, e, R, s, m, args, below, meth, c⟩ := X
  obtain ⟨hx, hb, hml, ho, hts, hK, hA, hlk, hfr, hR1, hR2, hlo, hZ⟩ := hX
  intro H locs ls h1 h2 h3
  have hv := (h2.2 a (by rw [ht]; omega)).1
  rw [zw_cell_l ht hk1 hk2] at hv
  exact va_lald hx hb hK (zw_one hv) 0 2 rfl rfl (zb_in h0 h5) hd (kk a _ h H locs ls h1 h2 h3)
theorem zg_aald {X : zg_X} {D : va_G} {G : zw_G} {A : Nat → Prop} {Q : State → Prop} {sf ck : Nat} {w : zw_T} {pc : Nat} {lv : List (Option Value)} {st : List Value} {cc : ByteArray} {own : String} {nL fr lo mc : Nat} {ci t0 : Nat} (ht0 : (zw_tys G)[t0]? = some (G.2.2.2 ci, .object (zw_nm ci))) {o : Option Nat} {i : Int32} {ρ : Type} {r : ρ} {K : Nat → Nat → Option ρ} (hX : zg_ok X cc own nL fr lo sf mc D G A) (hd : decode cc pc = .ok (.aaload, 1)) (h : zf_ix w (400 + ci) o i K = some r) (kk : ∀ a j, K a j = some r → zg X D G A Q sf ck w (pc + 1) lv (va_rf (zw_R w (400 + ci) a j) :: st)) : zg X D G A Q sf ck w pc lv (.int i :: va_rf o :: st) := by
  obtain ⟨a, rfl, ht, h0, h5, h⟩ := zf_ix_e h
  obtain ⟨p, l, e, R, s, m, args, below, meth, c⟩ := X
  obtain ⟨hx, hb, hml, ho, hts, hK, hA, hlk, hfr, hR1, hR2, hlo, hZ⟩ := hX
  intro H locs ls h1 h2 h3
  have hv := (h2.2 a (by rw [ht]; omega)).1
  rw [zw_cell_r ht] at hv
  exact va_aldq hx hb hK (zw_one hv) 0 t0 rfl ht0 (zb_in h0 h5) hd (kk a _ h H locs ls h1 h2 h3)
theorem zg_iast {X : zg_X} {D : va_G} {G : zw_G} {A : Nat → Prop} {Q : State → Prop} {sf ck : Nat} {w : zw_T} {pc : Nat} {lv : List (Option Value)} {st : List Value} {cc : ByteArray} {own : String} {nL fr lo mc : Nat} {kd : Nat} (hk1 : 100 ≤ kd) (hk2 : kd < 200) {o : Option Nat} {i : Int32} {x : Int32} {ρ : Type} {r : ρ} {K : zw_T → Option ρ} (hX : zg_ok X cc own nL fr lo sf mc D G A) (hd : decode cc pc = .ok (.iastore, 1)) (h : zf_ix w kd o i (fun a j => zf_let (zw_sI w kd a j x) K) = some r) (kk : ∀ w1, K w1 = some r → zg X D G A Q sf ck w1 (pc + 1) lv st) : zg X D G A Q sf ck w pc lv (.int x :: .int i :: va_rf o :: st) := by
  obtain ⟨a, rfl, ht, h0, h5, h⟩ := zf_ix_e h
  obtain ⟨p, l, e, R, s, m, args, below, meth, c⟩ := X
  obtain ⟨hx, hb, hml, ho, hts, hK, hA, hlk, hfr, hR1, hR2, hlo, hZ⟩ := hX
  intro H locs ls h1 h2 h3
  have hv := h2.2 a (by rw [ht]; omega)
  have hAa := hv.2
  have hv := hv.1
  rw [zw_cell_i ht hk1 hk2] at hv
  refine W.iast hx hb hv ((hK.2 0 _ rfl).1 _ (fun j => .int (zw_I w kd a j))) (fun q => by cases q) (by show ¬ (i < 0 ∨ (arrV _ _ _).slots.size ≤ _); rw [arrV_size]; exact zb_in h0 h5) rfl rfl hd fun H1 e1 z oq => ?_
  refine kk _ h H1 _ ls h1 (zw_move h2 rfl rfl (fun b hb => zw_sF_ne hb) ?_ z oq) (h3.put z oq hAa)
  rw [zw_cell_i (w := zw_sI w kd a i.toNatClampNeg x) (kd := kd) ht hk1 hk2]
  show H1[a]? = some (vp_cell _ _)
  rw [e1, vp_cell_i, vp_cell_i, arrV_store]
  congr 2
  funext q
  show _ = Value.int (zw_u2 (α := Nat → Int32) _ _ _ _ _ _ q)
  rw [zw_u2_eq]
  by_cases hq : q = i.toNatClampNeg
  · subst hq
    simp [updV, upd]
  · simp [updV, upd, hq, zw_I]
theorem zg_zast {X : zg_X} {D : va_G} {G : zw_G} {A : Nat → Prop} {Q : State → Prop} {sf ck : Nat} {w : zw_T} {pc : Nat} {lv : List (Option Value)} {st : List Value} {cc : ByteArray} {own : String} {nL fr lo mc : Nat} {kd : Nat} (hk1 : 200 ≤ kd) (hk2 : kd < 300) {o : Option Nat} {i : Int32} {x : Int32} {ρ : Type} {r : ρ} {K : zw_T → Option ρ} (hX : zg_ok X cc own nL fr lo sf mc D G A) (hd : decode cc pc = .ok (.bastore, 1)) (h : zf_ix w kd o i (fun a j => zf_let (zw_sI w kd a j (vp_nar .boolean x)) K) = some r) (kk : ∀ w1, K w1 = some r → zg X D G A Q sf ck w1 (pc + 1) lv st) : zg X D G A Q sf ck w pc lv (.int x :: .int i :: va_rf o :: st) := by
  obtain ⟨a, rfl, ht, h0, h5, h⟩ := zf_ix_e h
  obtain ⟨p, l, e, R, s, m, args, below, meth, c⟩ := X
  obtain ⟨hx, hb, hml, ho, hts, hK, hA, hlk, hfr, hR1, hR2, hlo, hZ⟩ := hX
  intro H locs ls h1 h2 h3
  have hv := h2.2 a (by rw [ht]; omega)
  have hAa := hv.2
  have hv := hv.1
  rw [zw_cell_z ht hk1 hk2] at hv
  refine W.zast hx hb hv ((hK.2 1 _ rfl).1 _ (fun j => .int (zw_I w kd a j))) (fun q => by cases q) (by show ¬ (i < 0 ∨ (arrV _ _ _).slots.size ≤ _); rw [arrV_size]; exact zb_in h0 h5) rfl rfl hd fun H1 e1 z oq => ?_
  refine kk _ h H1 _ ls h1 (zw_move h2 rfl rfl (fun b hb => zw_sF_ne hb) ?_ z oq) (h3.put z oq hAa)
  rw [zw_cell_z (w := zw_sI w kd a i.toNatClampNeg (vp_nar .boolean x)) (kd := kd) ht hk1 hk2]
  show H1[a]? = some (vp_cell _ _)
  rw [e1, vp_cell_i, vp_cell_i, arrV_store]
  congr 2
  funext q
  show _ = Value.int (zw_u2 (α := Nat → Int32) _ _ _ _ _ _ q)
  rw [zw_u2_eq]
  by_cases hq : q = i.toNatClampNeg
  · subst hq
    simp [updV, upd, vp_nar]
    try rfl
  · simp [updV, upd, hq, zw_I]
theorem zg_last {X : zg_X} {D : va_G} {G : zw_G} {A : Nat → Prop} {Q : State → Prop} {sf ck : Nat} {w : zw_T} {pc : Nat} {lv : List (Option Value)} {st : List Value} {cc : ByteArray} {own : String} {nL fr lo mc : Nat} {kd : Nat} (hk1 : 300 ≤ kd) (hk2 : kd < 400) {o : Option Nat} {i : Int32} {x : Int64} {ρ : Type} {r : ρ} {K : zw_T → Option ρ} (hX : zg_ok X cc own nL fr lo sf mc D G A) (hd : decode cc pc = .ok (.lastore, 1)) (h : zf_ix w kd o i (fun a j => zf_let (zw_sL w kd a j x) K) = some r) (kk : ∀ w1, K w1 = some r → zg X D G A Q sf ck w1 (pc + 1) lv st) : zg X D G A Q sf ck w pc lv (.long x :: .int i :: va_rf o :: st) := by
  obtain ⟨a, rfl, ht, h0, h5, h⟩ := zf_ix_e h
  obtain ⟨p, l, e, R, s, m, args, below, meth, c⟩ := X
  obtain ⟨hx, hb, hml, ho, hts, hK, hA, hlk, hfr, hR1, hR2, hlo, hZ⟩ := hX
  intro H locs ls h1 h2 h3
  have hv := h2.2 a (by rw [ht]; omega)
  have hAa := hv.2
  have hv := hv.1
  rw [zw_cell_l ht hk1 hk2] at hv
  refine W.last hx hb hv ((hK.2 2 _ rfl).1 _ (fun j => .long (zw_L w kd a j))) (fun q => by cases q) (by show ¬ (i < 0 ∨ (arrV _ _ _).slots.size ≤ _); rw [arrV_size]; exact zb_in h0 h5) rfl rfl hd fun H1 e1 z oq => ?_
  refine kk _ h H1 _ ls h1 (zw_move h2 rfl rfl (fun b hb => zw_sL_ne hb) ?_ z oq) (h3.put z oq hAa)
  rw [zw_cell_l (w := zw_sL w kd a i.toNatClampNeg x) (kd := kd) ht hk1 hk2]
  show H1[a]? = some (vp_cell _ _)
  rw [e1, vp_cell_l, vp_cell_l, arrV_store]
  congr 2
  funext q
  show _ = Value.long (zw_u2 (α := Nat → Int64) _ _ _ _ _ _ q)
  rw [zw_u2_eq]
  by_cases hq : q = i.toNatClampNeg
  · subst hq
    simp [updV, vp_updL]
  · simp [updV, vp_updL, hq, zw_L]
theorem zg_aast {X : zg_X} {D : va_G} {G : zw_G} {A : Nat → Prop} {Q : State → Prop} {sf ck : Nat} {w : zw_T} {pc : Nat} {lv : List (Option Value)} {st : List Value} {cc : ByteArray} {own : String} {nL fr lo mc : Nat} {ci t0 kd : Nat} {rr : vw_C} (hc : vwCl[ci]? = some rr) (hci : ci < 99) (hrr : rr.1 = zw_nm ci) (ht0 : (zw_tys G)[t0]? = some (G.2.2.2 ci, .object (zw_nm ci))) (hkd : kd = 400 + ci) {o : Option Nat} {i : Int32} {b : Nat} {ρ : Type} {r : ρ} {K : zw_T → Option ρ} (hX : zg_ok X cc own nL fr lo sf mc D G A) (hd : decode cc pc = .ok (.aastore, 1)) (h : zf_at w (ci + 1) (some b) (fun b => zf_ix w kd o i (fun a j => zf_let (zw_sR w kd a j (some b)) K)) = some r) (kk : ∀ w1, K w1 = some r → zg X D G A Q sf ck w1 (pc + 1) lv st) : zg X D G A Q sf ck w pc lv (va_rf (some b) :: .int i :: va_rf o :: st) := by
  subst hkd
  obtain ⟨b', hb', htb, h⟩ := zf_at_e h
  cases hb'
  obtain ⟨a, rfl, ht, h0, h5, h⟩ := zf_ix_e h
  obtain ⟨p, l, e, R, s, m, args, below, meth, c⟩ := X
  obtain ⟨hx, hb, hml, ho, hts, hK, hA, hlk, hfr, hR1, hR2, hlo, hZ⟩ := hX
  intro H locs ls h1 h2 h3
  have hv := h2.2 a (by rw [ht]; omega)
  have hAa := hv.2
  have hv := hv.1
  rw [zw_cell_r ht] at hv
  have hvb := (h2.2 b (by rw [htb]; omega)).1
  rw [zw_cell_o htb hci] at hvb
  obtain ⟨r', hr', cellV, g1, g2, g3, -⟩ := hvb
  have hcls := (hK.1 ci rr hc).2
  obtain ⟨kA, comp, k1, k2, k3, -⟩ := (hK.2 t0 _ ht0).2
  rw [hrr] at hcls
  have hcomp : comp = D.1 ci := Option.some.inj (k3.symm.trans hcls.1)
  subst hcomp
  obtain ⟨kC, hkC, -⟩ := hcls.2
  refine W.aast hx hb hv (fun q h => by cases h) (fun h => by cases h) k1 k2 rfl hkC ⟨h0, by show _ < (arrV _ _ _).slots.size; rw [arrV_size]; exact h5⟩ g1 (fun q h => by rw [g3] at h; cases h) (by rw [g2]; exact hkC) (by rw [g2]; exact va_assign hcls) rfl rfl hd fun H1 e1 z oq => ?_
  refine kk _ h H1 _ ls h1 (zw_move h2 rfl rfl (fun b hb => zw_sR_ne hb) ?_ z oq) (h3.put z oq hAa)
  rw [zw_cell_r (w := zw_sR w (400 + ci) a i.toNatClampNeg (some b)) (ci := ci) ht]
  show H1[a]? = some (vp_cell _ _)
  rw [e1, vp_cell_q, vp_cell_q, arrV_store]
  congr 2
  funext q
  show _ = va_rf (zw_u2 (α := Nat → Option Nat) _ _ _ _ _ _ q)
  rw [zw_u2_eq]
  by_cases hq : q = i.toNatClampNeg
  · subst hq
    simp [updV, va_up, va_rf]
  · simp [updV, va_up, hq, zw_R]
theorem zg_leni {X : zg_X} {D : va_G} {G : zw_G} {A : Nat → Prop} {Q : State → Prop} {sf ck : Nat} {w : zw_T} {pc : Nat} {lv : List (Option Value)} {st : List Value} {cc : ByteArray} {own : String} {nL fr lo mc : Nat} {kd : Nat} (hk1 : 100 ≤ kd) (hk2 : kd < 200) {o : Option Nat} {ρ : Type} {r : ρ} {K : Nat → Option ρ} (hX : zg_ok X cc own nL fr lo sf mc D G A) (hd : decode cc pc = .ok (.arraylength, 1)) (h : zf_at w kd o K = some r) (kk : ∀ a, K a = some r → zg X D G A Q sf ck w (pc + 1) lv (.int (nI (zw_ty w a).2) :: st)) : zg X D G A Q sf ck w pc lv (va_rf o :: st) := by
  obtain ⟨a, rfl, ht, h⟩ := zf_at_e h
  obtain ⟨p, l, e, R, s, m, args, below, meth, c⟩ := X
  obtain ⟨hx, hb, hml, ho, hts, hK, hA, hlk, hfr, hR1, hR2, hlo, hZ⟩ := hX
  intro H locs ls h1 h2 h3
  have hv := (h2.2 a (by rw [ht]; omega)).1
  rw [zw_cell_i ht hk1 hk2] at hv
  exact va_alen hx hb hK (zw_one hv) 0 0 rfl rfl (v := nI (zw_ty w a).2) rfl hd (kk a h H locs ls h1 h2 h3)
def zs_T (X : zg_X) (A : Nat → Prop) (t : Nat) : Prop := match X with
  | (_, _, _, _, s, _, _, _, _, _) => va_T .int t 32 (fun j => .int (zs_tr j)) A s s.heap
theorem zg_gets {X : zg_X} {D : va_G} {G : zw_G} {A : Nat → Prop} {Q : State → Prop} {sf ck : Nat} {w : zw_T} {pc : Nat} {lv : List (Option Value)} {st : List Value} {cc : ByteArray} {own : String} {nL fr lo mc : Nat} {idx : Nat} (hlink : Cond.fieldLink own idx "WakingPagers$Repairer" "TRACES" "[I" ∈ zT) (hX : zg_ok X cc own nL fr lo sf mc D G A) (hd : decode cc pc = .ok (.getstatic idx, 3)) (kk : ∀ t, zs_T X A t → zg X D G A Q sf ck w (pc + 3) lv (.ref t :: st)) : zg X D G A Q sf ck w pc lv st := by
  obtain ⟨p, l, e, R, s, m, args, below, meth, c⟩ := X
  obtain ⟨hx, hb, hml, ho, hts, hK, hA, hlk, hfr, hR1, hR2, hlo, hZ⟩ := hX
  intro H locs ls h1 h2 h3
  obtain ⟨-, t, z1, z2⟩ := hZ
  exact va_gets hx hb z1 h3 ho (hts _ hlink) (fun _ q => q) hd (kk t z2 H locs ls h1 h2 h3)
theorem zg_tald {X : zg_X} {D : va_G} {G : zw_G} {A : Nat → Prop} {Q : State → Prop} {sf ck : Nat} {w : zw_T} {pc : Nat} {lv : List (Option Value)} {st : List Value} {cc : ByteArray} {own : String} {nL fr lo mc : Nat} {t : Nat} (ht : zs_T X A t) {i : Int32} {ρ : Type} {r : ρ} {K : Int32 → Option ρ} (hX : zg_ok X cc own nL fr lo sf mc D G A) (hd : decode cc pc = .ok (.iaload, 1)) (h : zf_tr i K = some r) (kk : ∀ v, K v = some r → zg X D G A Q sf ck w (pc + 1) lv (.int v :: st)) : zg X D G A Q sf ck w pc lv (.int i :: .ref t :: st) := by
  unfold zf_tr at h
  by_cases hq : ¬ i < 0 ∧ i.toNatClampNeg < 32
  · rw [if_pos hq] at h
    obtain ⟨p, l, e, R, s, m, args, below, meth, c⟩ := X
    obtain ⟨hx, hb, hml, ho, hts, hK, hA, hlk, hfr, hR1, hR2, hlo, hZ⟩ := hX
    intro H locs ls h1 h2 h3
    exact va_ti hx hb ht h3 (zb_in hq.1 hq.2) rfl hd (kk _ h H locs ls h1 h2 h3)
  · rw [if_neg hq] at h
    cases h
def zw_dv (t : Nat) : Value := match t with
  | 0 => .int 0
  | 1 => .null
  | _ => .long 0
theorem zw_new_fs {w : zw_T} {ci kd n N : Nat} (hN : zw_nf ci = N) {j : Nat} (hj : j < N) : vp_V (zw_fs (zw_new w kd n) ci (zw_n w)) j = zw_dv (zw_ft ci j) := by
  unfold vp_V
  rw [List.getD_eq_getElem?_getD, zw_fs_at (by rw [hN]; exact hj)]
  unfold zw_fv zw_dv
  have e2 : ∀ k, zw_I (zw_new w kd n) k (zw_n w) = fun _ => 0 := fun k => if_pos rfl
  have e3 : ∀ k, zw_R (zw_new w kd n) k (zw_n w) = fun _ => none := fun k => if_pos rfl
  have e4 : ∀ k, zw_L (zw_new w kd n) k (zw_n w) = fun _ => 0 := fun k => if_pos rfl
  rw [e2, e3, e4]
  rfl
theorem zw_new_ty {w : zw_T} {kd n : Nat} : zw_ty (zw_new w kd n) (zw_n w) = (kd, n) := va_up_self _ _ _
theorem zg_new {X : zg_X} {D : va_G} {G : zw_G} {A : Nat → Prop} {Q : State → Prop} {sf ck : Nat} {w : zw_T} {pc : Nat} {lv : List (Option Value)} {st : List Value} {cc : ByteArray} {own : String} {nL fr lo mc : Nat} {ci idx N : Nat} {C : String} {T : u_T} (hc : vwCl[ci]? = some (C, T, N)) (hci : ci < 99) (hin : ∀ q ∈ u_ws C T N, q ∈ zT) (ty0 : Nat → FieldType) (hty : ∀ k, k < N → parseFieldDescriptor (T k).2.2.1 = some (ty0 k)) (hdf : ∀ k, k < N → defaultValue (ty0 k) = zw_dv (zw_ft ci k)) (hcl : Cond.classLink own idx C ∈ zT) (hinst : Cond.instantiable C N ∈ zT) (hini : Cond.initialized C ∈ zT) (hN : N ≤ sf) {ρ : Type} {r : ρ} {K : zw_T → Option ρ} (hcell : ck + 1 ≤ mc) (hX : zg_ok X cc own nL fr lo sf mc D G A) (hd : decode cc pc = .ok (.new idx, 3)) (h : zf_let (zw_new w (ci + 1) 0) K = some r) (kk : ∀ w1, K w1 = some r → zg X D G A Q sf (ck + 1) w1 (pc + 3) lv (va_rf (some (zw_n w)) :: st)) : zg X D G A Q sf ck w pc lv st := by
  obtain ⟨p, l, e, R, s, m, args, below, meth, c⟩ := X
  obtain ⟨hx, hb, hml, ho, hts, hK, hA, hlk, hfr, hR1, hR2, hlo, hZ⟩ := hX
  intro H locs ls h1 h2 h3
  have hKn := hK.1 ci _ hc
  have hsl : sf * (ck + 1) = sf * ck + sf := Nat.mul_succ sf ck
  have hsm : sf * (ck + 1) ≤ sf * mc := Nat.mul_le_mul_left sf hcell
  refine W.newcK hx hb ho (hts _ hcl) (hts _ hinst) (hts _ hini) rfl hd (Nat.le_trans hcell hR1) (by omega) hKn.2.1 rfl fun H1 kC hkC e1 z1 o1 => ?_
  refine W.widen (k := ck + 1) (n := sf * (ck + 1)) (Nat.le_refl _) (by omega) ?_
  have hz : H.size = zw_n w := h2.1
  rw [hz] at e1 ⊢
  refine kk _ h H1 locs ls h1 (zw_born h2 rfl ?_ (hA _ (by rw [← hz]; exact h3.1)) z1 o1) ⟨Nat.le_trans h3.1 (by omega), fun q g1 g2 => (o1 q (Nat.lt_of_lt_of_le g1 h3.1)).trans (h3.2.1 q g1 g2), h3.2.2⟩
  rw [zw_cell_o (ci := ci) (by rw [zw_new_ty]) hci]
  exact ⟨_, hc, (u_born ty0 hts hin hKn hkC e1 hty).to (fun j hj => (hdf j hj).trans (zw_new_fs (zw_nf_of hc) hj).symm)⟩
theorem zg_newi {X : zg_X} {D : va_G} {G : zw_G} {A : Nat → Prop} {Q : State → Prop} {sf ck : Nat} {w : zw_T} {pc : Nat} {lv : List (Option Value)} {st : List Value} {cc : ByteArray} {own : String} {nL fr lo mc : Nat} {kd bd : Nat} (hbd : bd ≤ sf) (hb4 : bd ≤ 4096) (hk1 : 100 ≤ kd) (hk2 : kd < 200) (harr : Cond.arrayClass .int ∈ zT) {n : Int32} {ρ : Type} {r : ρ} {K : zw_T → Option ρ} (hcell : ck + 1 ≤ mc) (hX : zg_ok X cc own nL fr lo sf mc D G A) (hd : decode cc pc = .ok (.newarray .int, 2)) (h : zf_na bd w kd n K = some r) (kk : ∀ w1, K w1 = some r → zg X D G A Q sf (ck + 1) w1 (pc + 2) lv (va_rf (some (zw_n w)) :: st)) : zg X D G A Q sf ck w pc lv (.int n :: st) := by
  unfold zf_na at h
  by_cases hq : ¬ n < 0 ∧ n.toNatClampNeg ≤ bd
  · rw [if_pos hq] at h
    obtain ⟨p, l, e, R, s, m, args, below, meth, c⟩ := X
    obtain ⟨hx, hb, hml, ho, hts, hK, hA, hlk, hfr, hR1, hR2, hlo, hZ⟩ := hX
    intro H locs ls h1 h2 h3
    have e8 : componentBytes .int ≤ 8 := by decide
    have e9 := Nat.mul_le_mul (Nat.le_trans hq.2 hb4) e8
    have hsl : sf * (ck + 1) = sf * ck + sf := Nat.mul_succ sf ck
    have hsm : sf * (ck + 1) ≤ sf * mc := Nat.mul_le_mul_left sf hcell
    have hn9 := Nat.le_trans hq.2 hbd
    refine va_newaK (atype := .int) hx hb (hts _ harr) rfl hd rfl hq.1 rfl (Nat.le_trans e9 (by decide)) (Nat.le_trans hcell hR1) (by omega) rfl fun H1 cA e1 z1 o1 hAr hNm => ?_
    refine W.widen (k := ck + 1) (n := sf * (ck + 1)) (Nat.le_refl _) (by omega) ?_
    have hz : H.size = zw_n w := h2.1
    have hcA : cA = G.1 := Option.some.inj (hNm.symm.trans (hK.2 0 (G.1, .int) rfl).2)
    subst hcA
    rw [hz] at e1 ⊢
    refine kk _ h H1 locs ls h1 (zw_born h2 rfl ?_ (hA _ (by rw [← hz]; exact h3.1)) z1 o1) ⟨Nat.le_trans h3.1 (by omega), fun q g1 g2 => (o1 q (Nat.lt_of_lt_of_le g1 h3.1)).trans (h3.2.1 q g1 g2), h3.2.2⟩
    rw [zw_cell_i (kd := kd) (by rw [zw_new_ty]) hk1 hk2]
    have e2 : zw_I (zw_new w kd n.toNatClampNeg) kd (zw_n w) = fun _ => 0 := if_pos rfl
    show H1[zw_n w]? = some (vp_cell _ _)
    rw [zw_new_ty, e2, vp_cell_i, e1]
    rfl
  · rw [if_neg hq] at h
    cases h
theorem zg_newz {X : zg_X} {D : va_G} {G : zw_G} {A : Nat → Prop} {Q : State → Prop} {sf ck : Nat} {w : zw_T} {pc : Nat} {lv : List (Option Value)} {st : List Value} {cc : ByteArray} {own : String} {nL fr lo mc : Nat} {kd bd : Nat} (hbd : bd ≤ sf) (hb4 : bd ≤ 4096) (hk1 : 200 ≤ kd) (hk2 : kd < 300) (harr : Cond.arrayClass .boolean ∈ zT) {n : Int32} {ρ : Type} {r : ρ} {K : zw_T → Option ρ} (hcell : ck + 1 ≤ mc) (hX : zg_ok X cc own nL fr lo sf mc D G A) (hd : decode cc pc = .ok (.newarray .boolean, 2)) (h : zf_na bd w kd n K = some r) (kk : ∀ w1, K w1 = some r → zg X D G A Q sf (ck + 1) w1 (pc + 2) lv (va_rf (some (zw_n w)) :: st)) : zg X D G A Q sf ck w pc lv (.int n :: st) := by
  unfold zf_na at h
  by_cases hq : ¬ n < 0 ∧ n.toNatClampNeg ≤ bd
  · rw [if_pos hq] at h
    obtain ⟨p, l, e, R, s, m, args, below, meth, c⟩ := X
    obtain ⟨hx, hb, hml, ho, hts, hK, hA, hlk, hfr, hR1, hR2, hlo, hZ⟩ := hX
    intro H locs ls h1 h2 h3
    have e8 : componentBytes .boolean ≤ 8 := by decide
    have e9 := Nat.mul_le_mul (Nat.le_trans hq.2 hb4) e8
    have hsl : sf * (ck + 1) = sf * ck + sf := Nat.mul_succ sf ck
    have hsm : sf * (ck + 1) ≤ sf * mc := Nat.mul_le_mul_left sf hcell
    have hn9 := Nat.le_trans hq.2 hbd
    refine va_newaK (atype := .boolean) hx hb (hts _ harr) rfl hd rfl hq.1 rfl (Nat.le_trans e9 (by decide)) (Nat.le_trans hcell hR1) (by omega) rfl fun H1 cA e1 z1 o1 hAr hNm => ?_
    refine W.widen (k := ck + 1) (n := sf * (ck + 1)) (Nat.le_refl _) (by omega) ?_
    have hz : H.size = zw_n w := h2.1
    have hcA : cA = G.2.1 := Option.some.inj (hNm.symm.trans (hK.2 1 (G.2.1, .boolean) rfl).2)
    subst hcA
    rw [hz] at e1 ⊢
    refine kk _ h H1 locs ls h1 (zw_born h2 rfl ?_ (hA _ (by rw [← hz]; exact h3.1)) z1 o1) ⟨Nat.le_trans h3.1 (by omega), fun q g1 g2 => (o1 q (Nat.lt_of_lt_of_le g1 h3.1)).trans (h3.2.1 q g1 g2), h3.2.2⟩
    rw [zw_cell_z (kd := kd) (by rw [zw_new_ty]) hk1 hk2]
    have e2 : zw_I (zw_new w kd n.toNatClampNeg) kd (zw_n w) = fun _ => 0 := if_pos rfl
    show H1[zw_n w]? = some (vp_cell _ _)
    rw [zw_new_ty, e2, vp_cell_i, e1]
    rfl
  · rw [if_neg hq] at h
    cases h
theorem zg_newl {X : zg_X} {D : va_G} {G : zw_G} {A : Nat → Prop} {Q : State → Prop} {sf ck : Nat} {w : zw_T} {pc : Nat} {lv : List (Option Value)} {st : List Value} {cc : ByteArray} {own : String} {nL fr lo mc : Nat} {kd bd : Nat} (hbd : bd ≤ sf) (hb4 : bd ≤ 4096) (hk1 : 300 ≤ kd) (hk2 : kd < 400) (harr : Cond.arrayClass .long ∈ zT) {n : Int32} {ρ : Type} {r : ρ} {K : zw_T → Option ρ} (hcell : ck + 1 ≤ mc) (hX : zg_ok X cc own nL fr lo sf mc D G A) (hd : decode cc pc = .ok (.newarray .long, 2)) (h : zf_na bd w kd n K = some r) (kk : ∀ w1, K w1 = some r → zg X D G A Q sf (ck + 1) w1 (pc + 2) lv (va_rf (some (zw_n w)) :: st)) : zg X D G A Q sf ck w pc lv (.int n :: st) := by
  unfold zf_na at h
  by_cases hq : ¬ n < 0 ∧ n.toNatClampNeg ≤ bd
  · rw [if_pos hq] at h
    obtain ⟨p, l, e, R, s, m, args, below, meth, c⟩ := X
    obtain ⟨hx, hb, hml, ho, hts, hK, hA, hlk, hfr, hR1, hR2, hlo, hZ⟩ := hX
    intro H locs ls h1 h2 h3
    have e8 : componentBytes .long ≤ 8 := by decide
    have e9 := Nat.mul_le_mul (Nat.le_trans hq.2 hb4) e8
    have hsl : sf * (ck + 1) = sf * ck + sf := Nat.mul_succ sf ck
    have hsm : sf * (ck + 1) ≤ sf * mc := Nat.mul_le_mul_left sf hcell
    have hn9 := Nat.le_trans hq.2 hbd
    refine va_newaK (atype := .long) hx hb (hts _ harr) rfl hd rfl hq.1 rfl (Nat.le_trans e9 (by decide)) (Nat.le_trans hcell hR1) (by omega) rfl fun H1 cA e1 z1 o1 hAr hNm => ?_
    refine W.widen (k := ck + 1) (n := sf * (ck + 1)) (Nat.le_refl _) (by omega) ?_
    have hz : H.size = zw_n w := h2.1
    have hcA : cA = G.2.2.1 := Option.some.inj (hNm.symm.trans (hK.2 2 (G.2.2.1, .long) rfl).2)
    subst hcA
    rw [hz] at e1 ⊢
    refine kk _ h H1 locs ls h1 (zw_born h2 rfl ?_ (hA _ (by rw [← hz]; exact h3.1)) z1 o1) ⟨Nat.le_trans h3.1 (by omega), fun q g1 g2 => (o1 q (Nat.lt_of_lt_of_le g1 h3.1)).trans (h3.2.1 q g1 g2), h3.2.2⟩
    rw [zw_cell_l (kd := kd) (by rw [zw_new_ty]) hk1 hk2]
    have e2 : zw_L (zw_new w kd n.toNatClampNeg) kd (zw_n w) = fun _ => 0 := if_pos rfl
    show H1[zw_n w]? = some (vp_cell _ _)
    rw [zw_new_ty, e2, vp_cell_l, e1]
    rfl
  · rw [if_neg hq] at h
    cases h
theorem zg_newr {X : zg_X} {D : va_G} {G : zw_G} {A : Nat → Prop} {Q : State → Prop} {sf ck : Nat} {w : zw_T} {pc : Nat} {lv : List (Option Value)} {st : List Value} {cc : ByteArray} {own : String} {nL fr lo mc : Nat} {ci idx t0 bd : Nat} (hbd : bd ≤ sf) (hb4 : bd ≤ 4096) (ht0 : (zw_tys G)[t0]? = some (G.2.2.2 ci, .object (zw_nm ci))) (hcl : Cond.classLink own idx (zw_nm ci) ∈ zT) (hov : zw_nm ci ∈ za_L) {n : Int32} {ρ : Type} {r : ρ} {K : zw_T → Option ρ} (hcell : ck + 1 ≤ mc) (hX : zg_ok X cc own nL fr lo sf mc D G A) (hd : decode cc pc = .ok (.anewarray idx, 3)) (h : zf_na bd w (400 + ci) n K = some r) (kk : ∀ w1, K w1 = some r → zg X D G A Q sf (ck + 1) w1 (pc + 3) lv (va_rf (some (zw_n w)) :: st)) : zg X D G A Q sf ck w pc lv (.int n :: st) := by
  unfold zf_na at h
  by_cases hq : ¬ n < 0 ∧ n.toNatClampNeg ≤ bd
  · rw [if_pos hq] at h
    obtain ⟨p, l, e, R, s, m, args, below, meth, c⟩ := X
    obtain ⟨hx, hb, hml, ho, hts, hK, hA, hlk, hfr, hR1, hR2, hlo, hZ⟩ := hX
    intro H locs ls h1 h2 h3
    have hsl : sf * (ck + 1) = sf * ck + sf := Nat.mul_succ sf ck
    have hsm : sf * (ck + 1) ≤ sf * mc := Nat.mul_le_mul_left sf hcell
    have hn9 := Nat.le_trans hq.2 hbd
    have hn8 := Nat.le_trans hq.2 hb4
    refine W.anew hx hb ho (hts _ hcl) (va_AO.use (hZ.1.2.1 _ hov)) rfl hd rfl hq.1 (by omega) (Nat.le_trans hcell hR1) (by omega) fun cA kA comp f1 f2 f3 f4 => ?_
    refine W.widen (k := ck + 1) (n := sf * (ck + 1)) (Nat.le_refl _) (by omega) ?_
    have hz : H.size = zw_n w := h2.1
    obtain ⟨kA', comp', -, -, -, k4⟩ := (hK.2 t0 _ ht0).2
    have hcA : cA = G.2.2.2 ci := Option.some.inj (f1.symm.trans k4)
    subst hcA
    generalize hH1 : H.push ({ cls := G.2.2.2 ci, slots := Array.replicate n.toNatClampNeg .null, vm := .none } : Cell) = H1
    have z1 : H1.size = H.size + 1 := by rw [← hH1, Array.size_push]
    have e1 : H1[H.size]? = some (arrV (G.2.2.2 ci) n.toNatClampNeg (fun _ => .null)) := by rw [← hH1, Array.getElem?_push_size, ← arrV_new]
    have o1 : ∀ q : Nat, q < H.size → H1[q]? = H[q]? := fun q hq => by rw [← hH1, Array.getElem?_push, if_neg (Nat.ne_of_lt hq)]
    rw [hz] at e1 ⊢
    refine kk _ h H1 locs ls h1 (zw_born h2 rfl ?_ (hA _ (by rw [← hz]; exact h3.1)) z1 o1) ⟨Nat.le_trans h3.1 (by omega), fun q g1 g2 => (o1 q (Nat.lt_of_lt_of_le g1 h3.1)).trans (h3.2.1 q g1 g2), h3.2.2⟩
    rw [zw_cell_r (ci := ci) (by rw [zw_new_ty])]
    have e2 : zw_R (zw_new w (400 + ci) n.toNatClampNeg) (400 + ci) (zw_n w) = fun _ => none := if_pos rfl
    show H1[zw_n w]? = some (vp_cell _ _)
    rw [zw_new_ty, e2, vp_cell_q, e1]
    rfl
  · rw [if_neg hq] at h
    cases h
theorem zg_callS {X : zg_X} {D : va_G} {G : zw_G} {A : Nat → Prop} {Q : State → Prop} {sf ck : Nat} {w : zw_T} {pc : Nat} {lv : List (Option Value)} {st : List Value} {cc : ByteArray} {own : String} {nL fr lo mc : Nat} {y : MethodName} {ws ws' : List Cond} {bytes : ByteArray} {maxL idx fry loy sfy mcy : Nat} {ret : Option FieldType} {res : Option Value × zw_T} {st0 : List Value} (As : List Value) (hM : ∀ l : Launch, zc l y ws fry loy sfy mcy D G A As w res) (hG : GoodIn zT (va_wsS own idx y ws)) (hw : ws = Cond.code y bytes maxL ret :: ws') (hd0 : y.cls ≠ "java/lang/invoke/MethodHandle" ∧ y.cls ≠ "java/lang/invoke/VarHandle" ∧ (parseMethodDescriptor y.desc).map (fun d => d.parameters.length) = some As.length) (hR : fry + 1 ≤ fr ∧ 8 + (maxL + 11) + loy ≤ lo) (hsf : sfy ≤ sf) (hcell : ck + mcy ≤ mc) (hcat : (st.map fun v => v.category).sum ≤ 8) (hll : lv.length = nL) (hst : st0 = As.reverse ++ st) (hX : zg_ok X cc own nL fr lo sf mc D G A) (hd : decode cc pc = .ok (.invokestatic idx, 3)) (kk : zg X D G A Q sf (ck + mcy) res.2 (pc + 3) lv (res.1.toList ++ st)) : zg X D G A Q sf ck w pc lv st0 := by
  obtain ⟨p, l, e, R, s, m, args, below, meth, c⟩ := X
  obtain ⟨hx, hb, hml, ho, hts, hK, hA, hlk, hfr, hR1, hR2, hlo, hZ⟩ := hX
  intro H locs ls h1 h2 h3
  subst hst
  exact zg_back hsf (va_runS (As := As) (rest := st) ⟨hx, hb, hml, ho, hts⟩ (hM l) (va_cwS As.length hts hG hw rfl rfl hd0 ⟨by rw [hfr]; exact hR.1, by rw [hlo]; exact hR.2⟩) ⟨zp_blind, zp_at hK hA hZ h2 h3⟩ rfl rfl (by show ls.size = nL; rw [h1.1]; exact hll) rfl (lv_room hcat) hd ⟨Nat.le_trans hcell hR1, Nat.le_trans (Nat.le_trans (Nat.add_le_add_left (Nat.mul_le_mul_right mcy hsf) _) (by rw [← Nat.mul_add]; exact Nat.mul_le_mul_left sf hcell)) hR2⟩) h3 (fun H1 locs1 g2 g3 => kk H1 locs1 ls h1 g2 g3)
theorem zg_callSN {X : zg_X} {D : va_G} {G : zw_G} {A : Nat → Prop} {Q : State → Prop} {sf ck : Nat} {w : zw_T} {pc : Nat} {lv : List (Option Value)} {st : List Value} {cc : ByteArray} {own : String} {nL fr lo mc : Nat} {y : MethodName} {ws ws' : List Cond} {bytes : ByteArray} {maxL idx fry loy sfy mcy : Nat} {ret : Option FieldType} {res : Option Value × zw_T} {st0 : List Value} {host : String} (As : List Value) (hM : ∀ l : Launch, zc l y ws fry loy sfy mcy D G A As w res) (hG : GoodIn zT ws) (hln : (own, idx, y, host) ∈ zn_L) (hstat : Cond.static y ∈ zT) (hini : Cond.initialized y.cls ∈ zT) (hw : ws = Cond.code y bytes maxL ret :: ws') (hd0 : y.cls ≠ "java/lang/invoke/MethodHandle" ∧ y.cls ≠ "java/lang/invoke/VarHandle" ∧ (parseMethodDescriptor y.desc).map (fun d => d.parameters.length) = some As.length) (hR : fry + 1 ≤ fr ∧ 8 + (maxL + 11) + loy ≤ lo) (hsf : sfy ≤ sf) (hcell : ck + mcy ≤ mc) (hcat : (st.map fun v => v.category).sum ≤ 8) (hll : lv.length = nL) (hst : st0 = As.reverse ++ st) (hX : zg_ok X cc own nL fr lo sf mc D G A) (hd : decode cc pc = .ok (.invokestatic idx, 3)) (kk : zg X D G A Q sf (ck + mcy) res.2 (pc + 3) lv (res.1.toList ++ st)) : zg X D G A Q sf ck w pc lv st0 := by
  obtain ⟨p, l, e, R, s, m, args, below, meth, c⟩ := X
  obtain ⟨hx, hb, hml, ho, hts, hK, hA, hlk, hfr, hR1, hR2, hlo, hZ⟩ := hX
  intro H locs ls h1 h2 h3
  subst hst
  exact zg_back hsf (va_runSN (As := As) (rest := st) ⟨hx, hb, hml, ho, hts⟩ (hM l) ⟨va_cnB As.length hts hG hw rfl rfl (hZ.1.1 _ hln) (hts _ hini) hd0 ⟨by rw [hfr]; exact hR.1, by rw [hlo]; exact hR.2⟩, hts _ hstat, trivial⟩ ⟨zp_blind, zp_at hK hA hZ h2 h3⟩ rfl rfl (by show ls.size = nL; rw [h1.1]; exact hll) rfl (lv_room hcat) hd ⟨Nat.le_trans hcell hR1, Nat.le_trans (Nat.le_trans (Nat.add_le_add_left (Nat.mul_le_mul_right mcy hsf) _) (by rw [← Nat.mul_add]; exact Nat.mul_le_mul_left sf hcell)) hR2⟩) h3 (fun H1 locs1 g2 g3 => kk H1 locs1 ls h1 g2 g3)
theorem zg_callV {X : zg_X} {D : va_G} {G : zw_G} {A : Nat → Prop} {Q : State → Prop} {sf ck : Nat} {w : zw_T} {pc : Nat} {lv : List (Option Value)} {st : List Value} {cc : ByteArray} {own : String} {nL fr lo mc : Nat} {y : MethodName} {ws ws' : List Cond} {bytes : ByteArray} {maxL idx fry loy sfy mcy : Nat} {ret : Option FieldType} {res : Option Value × zw_T} {st0 : List Value} {ci N a : Nat} {T : u_T} (hc : vwCl[ci]? = some (y.cls, T, N)) (hci : ci < 99) {o : Option Nat} (hoa : o = some a) (ha : (zw_ty w a).1 = ci + 1) (As : List Value) (hM : ∀ l : Launch, zc l y ws fry loy sfy mcy D G A (.ref a :: As) w res) (hG : GoodIn zT (wsV own idx y.cls y ws)) (hw : ws = Cond.code y bytes maxL ret :: ws') (hd0 : y.cls ≠ "java/lang/invoke/MethodHandle" ∧ y.cls ≠ "java/lang/invoke/VarHandle" ∧ (parseMethodDescriptor y.desc).map (fun d => d.parameters.length) = some As.length) (hR : fry + 1 ≤ fr ∧ 8 + (maxL + 11) + loy ≤ lo) (hsf : sfy ≤ sf) (hcell : ck + mcy ≤ mc) (hcat : (st.map fun v => v.category).sum ≤ 8) (hll : lv.length = nL) (hst : st0 = As.reverse ++ va_rf o :: st) (hX : zg_ok X cc own nL fr lo sf mc D G A) (hd : decode cc pc = .ok (.invokevirtual idx, 3)) (kk : zg X D G A Q sf (ck + mcy) res.2 (pc + 3) lv (res.1.toList ++ st)) : zg X D G A Q sf ck w pc lv st0 := by
  obtain ⟨p, l, e, R, s, m, args, below, meth, c⟩ := X
  obtain ⟨hx, hb, hml, ho, hts, hK, hA, hlk, hfr, hR1, hR2, hlo, hZ⟩ := hX
  intro H locs ls h1 h2 h3
  subst hst
  subst hoa
  have hv := (h2.2 a (by rw [ha]; omega)).1
  rw [zw_cell_o ha hci] at hv
  exact zg_back hsf (va_runV (As := As) (rest := st) ⟨hx, hb, hml, ho, hts⟩ (hM l) (cwV As.length hts hG hw rfl rfl ⟨rfl, hd0⟩ ⟨by rw [hfr]; exact hR.1, by rw [hlo]; exact hR.2⟩) ⟨zp_blind, va_recv (q0 := 0) hK (zw_one hv) hc rfl, zp_at hK hA hZ h2 h3⟩ rfl rfl (by show ls.size = nL; rw [h1.1]; exact hll) rfl (lv_room hcat) hd ⟨Nat.le_trans hcell hR1, Nat.le_trans (Nat.le_trans (Nat.add_le_add_left (Nat.mul_le_mul_right mcy hsf) _) (by rw [← Nat.mul_add]; exact Nat.mul_le_mul_left sf hcell)) hR2⟩) h3 (fun H1 locs1 g2 g3 => kk H1 locs1 ls h1 g2 g3)
theorem zg_callI {X : zg_X} {D : va_G} {G : zw_G} {A : Nat → Prop} {Q : State → Prop} {sf ck : Nat} {w : zw_T} {pc : Nat} {lv : List (Option Value)} {st : List Value} {cc : ByteArray} {own : String} {nL fr lo mc : Nat} {y : MethodName} {ws ws' : List Cond} {bytes : ByteArray} {maxL idx fry loy sfy mcy : Nat} {ret : Option FieldType} {res : Option Value × zw_T} {st0 : List Value} {a : Nat} (As : List Value) (hM : ∀ l : Launch, zc l y ws fry loy sfy mcy D G A (.ref a :: As) w res) (hret : ret = none) (hy1 : y.name = "<init>") (hG : GoodIn zT ws) (hli : Cond.methodLink own idx y ∈ zT) (hini : Cond.initialized y.cls ∈ zT) (hinst : Cond.instanceMethod y ∈ zT) (hw : ws = Cond.code y bytes maxL ret :: ws') (hd0 : y.cls ≠ "java/lang/invoke/MethodHandle" ∧ y.cls ≠ "java/lang/invoke/VarHandle" ∧ (parseMethodDescriptor y.desc).map (fun d => d.parameters.length) = some As.length) (hR : fry + 1 ≤ fr ∧ 8 + (maxL + 11) + loy ≤ lo) (hsf : sfy ≤ sf) (hcell : ck + mcy ≤ mc) (hcat : (st.map fun v => v.category).sum ≤ 8) (hll : lv.length = nL) (hst : st0 = As.reverse ++ .ref a :: st) (hX : zg_ok X cc own nL fr lo sf mc D G A) (hd : decode cc pc = .ok (.invokespecial idx, 3)) (kk : zg X D G A Q sf (ck + mcy) res.2 (pc + 3) lv (res.1.toList ++ st)) : zg X D G A Q sf ck w pc lv st0 := by
  obtain ⟨p, l, e, R, s, m, args, below, meth, c⟩ := X
  obtain ⟨hx, hb, hml, ho, hts, hK, hA, hlk, hfr, hR1, hR2, hlo, hZ⟩ := hX
  intro H locs ls h1 h2 h3
  subst hst
  subst hret
  exact zg_back hsf (va_runI (As := As) (rest := st) ⟨hx, hb, hml, ho, hts⟩ (hM l) ⟨callB_of As.length hts hG hw rfl rfl (hts _ hini) (hts _ hli) hd0 ⟨by rw [hfr]; exact hR.1, by rw [hlo]; exact hR.2⟩, hy1, hts _ hinst⟩ ⟨zp_blind, zp_at hK hA hZ h2 h3⟩ rfl rfl (by show ls.size = nL; rw [h1.1]; exact hll) rfl (lv_room hcat) hd ⟨Nat.le_trans hcell hR1, Nat.le_trans (Nat.le_trans (Nat.add_le_add_left (Nat.mul_le_mul_right mcy hsf) _) (by rw [← Nat.mul_add]; exact Nat.mul_le_mul_left sf hcell)) hR2⟩) h3 (fun H1 locs1 g2 g3 => kk H1 locs1 ls h1 g2 g3)
theorem zg_callIN {X : zg_X} {D : va_G} {G : zw_G} {A : Nat → Prop} {Q : State → Prop} {sf ck : Nat} {w : zw_T} {pc : Nat} {lv : List (Option Value)} {st : List Value} {cc : ByteArray} {own : String} {nL fr lo mc : Nat} {y : MethodName} {ws ws' : List Cond} {bytes : ByteArray} {maxL idx fry loy sfy mcy : Nat} {ret : Option FieldType} {res : Option Value × zw_T} {st0 : List Value} {a : Nat} {host : String} (As : List Value) (hM : ∀ l : Launch, zc l y ws fry loy sfy mcy D G A (.ref a :: As) w res) (hret : ret = none) (hy1 : y.name = "<init>") (hG : GoodIn zT ws) (hln : (own, idx, y, host) ∈ zn_L) (hini : Cond.initialized y.cls ∈ zT) (hinst : Cond.instanceMethod y ∈ zT) (hw : ws = Cond.code y bytes maxL ret :: ws') (hd0 : y.cls ≠ "java/lang/invoke/MethodHandle" ∧ y.cls ≠ "java/lang/invoke/VarHandle" ∧ (parseMethodDescriptor y.desc).map (fun d => d.parameters.length) = some As.length) (hR : fry + 1 ≤ fr ∧ 8 + (maxL + 11) + loy ≤ lo) (hsf : sfy ≤ sf) (hcell : ck + mcy ≤ mc) (hcat : (st.map fun v => v.category).sum ≤ 8) (hll : lv.length = nL) (hst : st0 = As.reverse ++ .ref a :: st) (hX : zg_ok X cc own nL fr lo sf mc D G A) (hd : decode cc pc = .ok (.invokespecial idx, 3)) (kk : zg X D G A Q sf (ck + mcy) res.2 (pc + 3) lv (res.1.toList ++ st)) : zg X D G A Q sf ck w pc lv st0 := by
  obtain ⟨p, l, e, R, s, m, args, below, meth, c⟩ := X
  obtain ⟨hx, hb, hml, ho, hts, hK, hA, hlk, hfr, hR1, hR2, hlo, hZ⟩ := hX
  intro H locs ls h1 h2 h3
  subst hst
  subst hret
  exact zg_back hsf (va_runIN (As := As) (rest := st) ⟨hx, hb, hml, ho, hts⟩ (hM l) ⟨va_cnB As.length hts hG hw rfl rfl (hZ.1.1 _ hln) (hts _ hini) hd0 ⟨by rw [hfr]; exact hR.1, by rw [hlo]; exact hR.2⟩, hy1, hts _ hinst⟩ ⟨zp_blind, zp_at hK hA hZ h2 h3⟩ rfl rfl (by show ls.size = nL; rw [h1.1]; exact hll) rfl (lv_room hcat) hd ⟨Nat.le_trans hcell hR1, Nat.le_trans (Nat.le_trans (Nat.add_le_add_left (Nat.mul_le_mul_right mcy hsf) _) (by rw [← Nat.mul_add]; exact Nat.mul_le_mul_left sf hcell)) hR2⟩) h3 (fun H1 locs1 g2 g3 => kk H1 locs1 ls h1 g2 g3)
theorem zg_callS_i {X : zg_X} {D : va_G} {G : zw_G} {A : Nat → Prop} {Q : State → Prop} {sf ck : Nat} {w : zw_T} {pc : Nat} {lv : List (Option Value)} {st : List Value} {cc : ByteArray} {own : String} {nL fr lo mc : Nat} {y : MethodName} {ws ws' : List Cond} {bytes : ByteArray} {maxL idx fry loy sfy mcy : Nat} {ret : Option FieldType} {v : Int32} {w1 : zw_T} {st0 : List Value} (As : List Value) (hM : ∀ l : Launch, zc l y ws fry loy sfy mcy D G A As w (some (.int v), w1)) (hG : GoodIn zT (va_wsS own idx y ws)) (hw : ws = Cond.code y bytes maxL ret :: ws') (hd0 : y.cls ≠ "java/lang/invoke/MethodHandle" ∧ y.cls ≠ "java/lang/invoke/VarHandle" ∧ (parseMethodDescriptor y.desc).map (fun d => d.parameters.length) = some As.length) (hR : fry + 1 ≤ fr ∧ 8 + (maxL + 11) + loy ≤ lo) (hsf : sfy ≤ sf) (hcell : ck + mcy ≤ mc) (hcat : (st.map fun v => v.category).sum ≤ 8) (hll : lv.length = nL) (hst : st0 = As.reverse ++ st) (hX : zg_ok X cc own nL fr lo sf mc D G A) (hd : decode cc pc = .ok (.invokestatic idx, 3)) (kk : zg X D G A Q sf (ck + mcy) w1 (pc + 3) lv (.int v :: st)) : zg X D G A Q sf ck w pc lv st0 := zg_callS As hM hG hw hd0 hR hsf hcell hcat hll hst hX hd kk
theorem zg_callS_l {X : zg_X} {D : va_G} {G : zw_G} {A : Nat → Prop} {Q : State → Prop} {sf ck : Nat} {w : zw_T} {pc : Nat} {lv : List (Option Value)} {st : List Value} {cc : ByteArray} {own : String} {nL fr lo mc : Nat} {y : MethodName} {ws ws' : List Cond} {bytes : ByteArray} {maxL idx fry loy sfy mcy : Nat} {ret : Option FieldType} {v : Int64} {w1 : zw_T} {st0 : List Value} (As : List Value) (hM : ∀ l : Launch, zc l y ws fry loy sfy mcy D G A As w (some (.long v), w1)) (hG : GoodIn zT (va_wsS own idx y ws)) (hw : ws = Cond.code y bytes maxL ret :: ws') (hd0 : y.cls ≠ "java/lang/invoke/MethodHandle" ∧ y.cls ≠ "java/lang/invoke/VarHandle" ∧ (parseMethodDescriptor y.desc).map (fun d => d.parameters.length) = some As.length) (hR : fry + 1 ≤ fr ∧ 8 + (maxL + 11) + loy ≤ lo) (hsf : sfy ≤ sf) (hcell : ck + mcy ≤ mc) (hcat : (st.map fun v => v.category).sum ≤ 8) (hll : lv.length = nL) (hst : st0 = As.reverse ++ st) (hX : zg_ok X cc own nL fr lo sf mc D G A) (hd : decode cc pc = .ok (.invokestatic idx, 3)) (kk : zg X D G A Q sf (ck + mcy) w1 (pc + 3) lv (.long v :: st)) : zg X D G A Q sf ck w pc lv st0 := zg_callS As hM hG hw hd0 hR hsf hcell hcat hll hst hX hd kk
theorem zg_callS_r {X : zg_X} {D : va_G} {G : zw_G} {A : Nat → Prop} {Q : State → Prop} {sf ck : Nat} {w : zw_T} {pc : Nat} {lv : List (Option Value)} {st : List Value} {cc : ByteArray} {own : String} {nL fr lo mc : Nat} {y : MethodName} {ws ws' : List Cond} {bytes : ByteArray} {maxL idx fry loy sfy mcy : Nat} {ret : Option FieldType} {v : Option Nat} {w1 : zw_T} {st0 : List Value} (As : List Value) (hM : ∀ l : Launch, zc l y ws fry loy sfy mcy D G A As w (some (va_rf v), w1)) (hG : GoodIn zT (va_wsS own idx y ws)) (hw : ws = Cond.code y bytes maxL ret :: ws') (hd0 : y.cls ≠ "java/lang/invoke/MethodHandle" ∧ y.cls ≠ "java/lang/invoke/VarHandle" ∧ (parseMethodDescriptor y.desc).map (fun d => d.parameters.length) = some As.length) (hR : fry + 1 ≤ fr ∧ 8 + (maxL + 11) + loy ≤ lo) (hsf : sfy ≤ sf) (hcell : ck + mcy ≤ mc) (hcat : (st.map fun v => v.category).sum ≤ 8) (hll : lv.length = nL) (hst : st0 = As.reverse ++ st) (hX : zg_ok X cc own nL fr lo sf mc D G A) (hd : decode cc pc = .ok (.invokestatic idx, 3)) (kk : zg X D G A Q sf (ck + mcy) w1 (pc + 3) lv (va_rf v :: st)) : zg X D G A Q sf ck w pc lv st0 := zg_callS As hM hG hw hd0 hR hsf hcell hcat hll hst hX hd kk
theorem zg_callS_v {X : zg_X} {D : va_G} {G : zw_G} {A : Nat → Prop} {Q : State → Prop} {sf ck : Nat} {w : zw_T} {pc : Nat} {lv : List (Option Value)} {st : List Value} {cc : ByteArray} {own : String} {nL fr lo mc : Nat} {y : MethodName} {ws ws' : List Cond} {bytes : ByteArray} {maxL idx fry loy sfy mcy : Nat} {ret : Option FieldType} {w1 : zw_T} {st0 : List Value} (As : List Value) (hM : ∀ l : Launch, zc l y ws fry loy sfy mcy D G A As w (none, w1)) (hG : GoodIn zT (va_wsS own idx y ws)) (hw : ws = Cond.code y bytes maxL ret :: ws') (hd0 : y.cls ≠ "java/lang/invoke/MethodHandle" ∧ y.cls ≠ "java/lang/invoke/VarHandle" ∧ (parseMethodDescriptor y.desc).map (fun d => d.parameters.length) = some As.length) (hR : fry + 1 ≤ fr ∧ 8 + (maxL + 11) + loy ≤ lo) (hsf : sfy ≤ sf) (hcell : ck + mcy ≤ mc) (hcat : (st.map fun v => v.category).sum ≤ 8) (hll : lv.length = nL) (hst : st0 = As.reverse ++ st) (hX : zg_ok X cc own nL fr lo sf mc D G A) (hd : decode cc pc = .ok (.invokestatic idx, 3)) (kk : zg X D G A Q sf (ck + mcy) w1 (pc + 3) lv st) : zg X D G A Q sf ck w pc lv st0 := zg_callS As hM hG hw hd0 hR hsf hcell hcat hll hst hX hd kk
theorem zg_callSN_i {X : zg_X} {D : va_G} {G : zw_G} {A : Nat → Prop} {Q : State → Prop} {sf ck : Nat} {w : zw_T} {pc : Nat} {lv : List (Option Value)} {st : List Value} {cc : ByteArray} {own : String} {nL fr lo mc : Nat} {y : MethodName} {ws ws' : List Cond} {bytes : ByteArray} {maxL idx fry loy sfy mcy : Nat} {ret : Option FieldType} {v : Int32} {w1 : zw_T} {st0 : List Value} {host : String} (As : List Value) (hM : ∀ l : Launch, zc l y ws fry loy sfy mcy D G A As w (some (.int v), w1)) (hG : GoodIn zT ws) (hln : (own, idx, y, host) ∈ zn_L) (hstat : Cond.static y ∈ zT) (hini : Cond.initialized y.cls ∈ zT) (hw : ws = Cond.code y bytes maxL ret :: ws') (hd0 : y.cls ≠ "java/lang/invoke/MethodHandle" ∧ y.cls ≠ "java/lang/invoke/VarHandle" ∧ (parseMethodDescriptor y.desc).map (fun d => d.parameters.length) = some As.length) (hR : fry + 1 ≤ fr ∧ 8 + (maxL + 11) + loy ≤ lo) (hsf : sfy ≤ sf) (hcell : ck + mcy ≤ mc) (hcat : (st.map fun v => v.category).sum ≤ 8) (hll : lv.length = nL) (hst : st0 = As.reverse ++ st) (hX : zg_ok X cc own nL fr lo sf mc D G A) (hd : decode cc pc = .ok (.invokestatic idx, 3)) (kk : zg X D G A Q sf (ck + mcy) w1 (pc + 3) lv (.int v :: st)) : zg X D G A Q sf ck w pc lv st0 := zg_callSN As hM hG hln hstat hini hw hd0 hR hsf hcell hcat hll hst hX hd kk
theorem zg_callSN_l {X : zg_X} {D : va_G} {G : zw_G} {A : Nat → Prop} {Q : State → Prop} {sf ck : Nat} {w : zw_T} {pc : Nat} {lv : List (Option Value)} {st : List Value} {cc : ByteArray} {own : String} {nL fr lo mc : Nat} {y : MethodName} {ws ws' : List Cond} {bytes : ByteArray} {maxL idx fry loy sfy mcy : Nat} {ret : Option FieldType} {v : Int64} {w1 : zw_T} {st0 : List Value} {host : String} (As : List Value) (hM : ∀ l : Launch, zc l y ws fry loy sfy mcy D G A As w (some (.long v), w1)) (hG : GoodIn zT ws) (hln : (own, idx, y, host) ∈ zn_L) (hstat : Cond.static y ∈ zT) (hini : Cond.initialized y.cls ∈ zT) (hw : ws = Cond.code y bytes maxL ret :: ws') (hd0 : y.cls ≠ "java/lang/invoke/MethodHandle" ∧ y.cls ≠ "java/lang/invoke/VarHandle" ∧ (parseMethodDescriptor y.desc).map (fun d => d.parameters.length) = some As.length) (hR : fry + 1 ≤ fr ∧ 8 + (maxL + 11) + loy ≤ lo) (hsf : sfy ≤ sf) (hcell : ck + mcy ≤ mc) (hcat : (st.map fun v => v.category).sum ≤ 8) (hll : lv.length = nL) (hst : st0 = As.reverse ++ st) (hX : zg_ok X cc own nL fr lo sf mc D G A) (hd : decode cc pc = .ok (.invokestatic idx, 3)) (kk : zg X D G A Q sf (ck + mcy) w1 (pc + 3) lv (.long v :: st)) : zg X D G A Q sf ck w pc lv st0 := zg_callSN As hM hG hln hstat hini hw hd0 hR hsf hcell hcat hll hst hX hd kk
theorem zg_callSN_r {X : zg_X} {D : va_G} {G : zw_G} {A : Nat → Prop} {Q : State → Prop} {sf ck : Nat} {w : zw_T} {pc : Nat} {lv : List (Option Value)} {st : List Value} {cc : ByteArray} {own : String} {nL fr lo mc : Nat} {y : MethodName} {ws ws' : List Cond} {bytes : ByteArray} {maxL idx fry loy sfy mcy : Nat} {ret : Option FieldType} {v : Option Nat} {w1 : zw_T} {st0 : List Value} {host : String} (As : List Value) (hM : ∀ l : Launch, zc l y ws fry loy sfy mcy D G A As w (some (va_rf v), w1)) (hG : GoodIn zT ws) (hln : (own, idx, y, host) ∈ zn_L) (hstat : Cond.static y ∈ zT) (hini : Cond.initialized y.cls ∈ zT) (hw : ws = Cond.code y bytes maxL ret :: ws') (hd0 : y.cls ≠ "java/lang/invoke/MethodHandle" ∧ y.cls ≠ "java/lang/invoke/VarHandle" ∧ (parseMethodDescriptor y.desc).map (fun d => d.parameters.length) = some As.length) (hR : fry + 1 ≤ fr ∧ 8 + (maxL + 11) + loy ≤ lo) (hsf : sfy ≤ sf) (hcell : ck + mcy ≤ mc) (hcat : (st.map fun v => v.category).sum ≤ 8) (hll : lv.length = nL) (hst : st0 = As.reverse ++ st) (hX : zg_ok X cc own nL fr lo sf mc D G A) (hd : decode cc pc = .ok (.invokestatic idx, 3)) (kk : zg X D G A Q sf (ck + mcy) w1 (pc + 3) lv (va_rf v :: st)) : zg X D G A Q sf ck w pc lv st0 := zg_callSN As hM hG hln hstat hini hw hd0 hR hsf hcell hcat hll hst hX hd kk
theorem zg_callSN_v {X : zg_X} {D : va_G} {G : zw_G} {A : Nat → Prop} {Q : State → Prop} {sf ck : Nat} {w : zw_T} {pc : Nat} {lv : List (Option Value)} {st : List Value} {cc : ByteArray} {own : String} {nL fr lo mc : Nat} {y : MethodName} {ws ws' : List Cond} {bytes : ByteArray} {maxL idx fry loy sfy mcy : Nat} {ret : Option FieldType} {w1 : zw_T} {st0 : List Value} {host : String} (As : List Value) (hM : ∀ l : Launch, zc l y ws fry loy sfy mcy D G A As w (none, w1)) (hG : GoodIn zT ws) (hln : (own, idx, y, host) ∈ zn_L) (hstat : Cond.static y ∈ zT) (hini : Cond.initialized y.cls ∈ zT) (hw : ws = Cond.code y bytes maxL ret :: ws') (hd0 : y.cls ≠ "java/lang/invoke/MethodHandle" ∧ y.cls ≠ "java/lang/invoke/VarHandle" ∧ (parseMethodDescriptor y.desc).map (fun d => d.parameters.length) = some As.length) (hR : fry + 1 ≤ fr ∧ 8 + (maxL + 11) + loy ≤ lo) (hsf : sfy ≤ sf) (hcell : ck + mcy ≤ mc) (hcat : (st.map fun v => v.category).sum ≤ 8) (hll : lv.length = nL) (hst : st0 = As.reverse ++ st) (hX : zg_ok X cc own nL fr lo sf mc D G A) (hd : decode cc pc = .ok (.invokestatic idx, 3)) (kk : zg X D G A Q sf (ck + mcy) w1 (pc + 3) lv st) : zg X D G A Q sf ck w pc lv st0 := zg_callSN As hM hG hln hstat hini hw hd0 hR hsf hcell hcat hll hst hX hd kk
theorem zg_callV_i {X : zg_X} {D : va_G} {G : zw_G} {A : Nat → Prop} {Q : State → Prop} {sf ck : Nat} {w : zw_T} {pc : Nat} {lv : List (Option Value)} {st : List Value} {cc : ByteArray} {own : String} {nL fr lo mc : Nat} {y : MethodName} {ws ws' : List Cond} {bytes : ByteArray} {maxL idx fry loy sfy mcy : Nat} {ret : Option FieldType} {v : Int32} {w1 : zw_T} {st0 : List Value} {ci N a : Nat} {T : u_T} (hc : vwCl[ci]? = some (y.cls, T, N)) (hci : ci < 99) {o : Option Nat} (hoa : o = some a) (ha : (zw_ty w a).1 = ci + 1) (As : List Value) (hM : ∀ l : Launch, zc l y ws fry loy sfy mcy D G A (.ref a :: As) w (some (.int v), w1)) (hG : GoodIn zT (wsV own idx y.cls y ws)) (hw : ws = Cond.code y bytes maxL ret :: ws') (hd0 : y.cls ≠ "java/lang/invoke/MethodHandle" ∧ y.cls ≠ "java/lang/invoke/VarHandle" ∧ (parseMethodDescriptor y.desc).map (fun d => d.parameters.length) = some As.length) (hR : fry + 1 ≤ fr ∧ 8 + (maxL + 11) + loy ≤ lo) (hsf : sfy ≤ sf) (hcell : ck + mcy ≤ mc) (hcat : (st.map fun v => v.category).sum ≤ 8) (hll : lv.length = nL) (hst : st0 = As.reverse ++ va_rf o :: st) (hX : zg_ok X cc own nL fr lo sf mc D G A) (hd : decode cc pc = .ok (.invokevirtual idx, 3)) (kk : zg X D G A Q sf (ck + mcy) w1 (pc + 3) lv (.int v :: st)) : zg X D G A Q sf ck w pc lv st0 := zg_callV hc hci hoa ha As hM hG hw hd0 hR hsf hcell hcat hll hst hX hd kk
theorem zg_callV_l {X : zg_X} {D : va_G} {G : zw_G} {A : Nat → Prop} {Q : State → Prop} {sf ck : Nat} {w : zw_T} {pc : Nat} {lv : List (Option Value)} {st : List Value} {cc : ByteArray} {own : String} {nL fr lo mc : Nat} {y : MethodName} {ws ws' : List Cond} {bytes : ByteArray} {maxL idx fry loy sfy mcy : Nat} {ret : Option FieldType} {v : Int64} {w1 : zw_T} {st0 : List Value} {ci N a : Nat} {T : u_T} (hc : vwCl[ci]? = some (y.cls, T, N)) (hci : ci < 99) {o : Option Nat} (hoa : o = some a) (ha : (zw_ty w a).1 = ci + 1) (As : List Value) (hM : ∀ l : Launch, zc l y ws fry loy sfy mcy D G A (.ref a :: As) w (some (.long v), w1)) (hG : GoodIn zT (wsV own idx y.cls y ws)) (hw : ws = Cond.code y bytes maxL ret :: ws') (hd0 : y.cls ≠ "java/lang/invoke/MethodHandle" ∧ y.cls ≠ "java/lang/invoke/VarHandle" ∧ (parseMethodDescriptor y.desc).map (fun d => d.parameters.length) = some As.length) (hR : fry + 1 ≤ fr ∧ 8 + (maxL + 11) + loy ≤ lo) (hsf : sfy ≤ sf) (hcell : ck + mcy ≤ mc) (hcat : (st.map fun v => v.category).sum ≤ 8) (hll : lv.length = nL) (hst : st0 = As.reverse ++ va_rf o :: st) (hX : zg_ok X cc own nL fr lo sf mc D G A) (hd : decode cc pc = .ok (.invokevirtual idx, 3)) (kk : zg X D G A Q sf (ck + mcy) w1 (pc + 3) lv (.long v :: st)) : zg X D G A Q sf ck w pc lv st0 := zg_callV hc hci hoa ha As hM hG hw hd0 hR hsf hcell hcat hll hst hX hd kk
theorem zg_callV_r {X : zg_X} {D : va_G} {G : zw_G} {A : Nat → Prop} {Q : State → Prop} {sf ck : Nat} {w : zw_T} {pc : Nat} {lv : List (Option Value)} {st : List Value} {cc : ByteArray} {own : String} {nL fr lo mc : Nat} {y : MethodName} {ws ws' : List Cond} {bytes : ByteArray} {maxL idx fry loy sfy mcy : Nat} {ret : Option FieldType} {v : Option Nat} {w1 : zw_T} {st0 : List Value} {ci N a : Nat} {T : u_T} (hc : vwCl[ci]? = some (y.cls, T, N)) (hci : ci < 99) {o : Option Nat} (hoa : o = some a) (ha : (zw_ty w a).1 = ci + 1) (As : List Value) (hM : ∀ l : Launch, zc l y ws fry loy sfy mcy D G A (.ref a :: As) w (some (va_rf v), w1)) (hG : GoodIn zT (wsV own idx y.cls y ws)) (hw : ws = Cond.code y bytes maxL ret :: ws') (hd0 : y.cls ≠ "java/lang/invoke/MethodHandle" ∧ y.cls ≠ "java/lang/invoke/VarHandle" ∧ (parseMethodDescriptor y.desc).map (fun d => d.parameters.length) = some As.length) (hR : fry + 1 ≤ fr ∧ 8 + (maxL + 11) + loy ≤ lo) (hsf : sfy ≤ sf) (hcell : ck + mcy ≤ mc) (hcat : (st.map fun v => v.category).sum ≤ 8) (hll : lv.length = nL) (hst : st0 = As.reverse ++ va_rf o :: st) (hX : zg_ok X cc own nL fr lo sf mc D G A) (hd : decode cc pc = .ok (.invokevirtual idx, 3)) (kk : zg X D G A Q sf (ck + mcy) w1 (pc + 3) lv (va_rf v :: st)) : zg X D G A Q sf ck w pc lv st0 := zg_callV hc hci hoa ha As hM hG hw hd0 hR hsf hcell hcat hll hst hX hd kk
theorem zg_callV_v {X : zg_X} {D : va_G} {G : zw_G} {A : Nat → Prop} {Q : State → Prop} {sf ck : Nat} {w : zw_T} {pc : Nat} {lv : List (Option Value)} {st : List Value} {cc : ByteArray} {own : String} {nL fr lo mc : Nat} {y : MethodName} {ws ws' : List Cond} {bytes : ByteArray} {maxL idx fry loy sfy mcy : Nat} {ret : Option FieldType} {w1 : zw_T} {st0 : List Value} {ci N a : Nat} {T : u_T} (hc : vwCl[ci]? = some (y.cls, T, N)) (hci : ci < 99) {o : Option Nat} (hoa : o = some a) (ha : (zw_ty w a).1 = ci + 1) (As : List Value) (hM : ∀ l : Launch, zc l y ws fry loy sfy mcy D G A (.ref a :: As) w (none, w1)) (hG : GoodIn zT (wsV own idx y.cls y ws)) (hw : ws = Cond.code y bytes maxL ret :: ws') (hd0 : y.cls ≠ "java/lang/invoke/MethodHandle" ∧ y.cls ≠ "java/lang/invoke/VarHandle" ∧ (parseMethodDescriptor y.desc).map (fun d => d.parameters.length) = some As.length) (hR : fry + 1 ≤ fr ∧ 8 + (maxL + 11) + loy ≤ lo) (hsf : sfy ≤ sf) (hcell : ck + mcy ≤ mc) (hcat : (st.map fun v => v.category).sum ≤ 8) (hll : lv.length = nL) (hst : st0 = As.reverse ++ va_rf o :: st) (hX : zg_ok X cc own nL fr lo sf mc D G A) (hd : decode cc pc = .ok (.invokevirtual idx, 3)) (kk : zg X D G A Q sf (ck + mcy) w1 (pc + 3) lv st) : zg X D G A Q sf ck w pc lv st0 := zg_callV hc hci hoa ha As hM hG hw hd0 hR hsf hcell hcat hll hst hX hd kk
theorem zg_callI_v {X : zg_X} {D : va_G} {G : zw_G} {A : Nat → Prop} {Q : State → Prop} {sf ck : Nat} {w : zw_T} {pc : Nat} {lv : List (Option Value)} {st : List Value} {cc : ByteArray} {own : String} {nL fr lo mc : Nat} {y : MethodName} {ws ws' : List Cond} {bytes : ByteArray} {maxL idx fry loy sfy mcy : Nat} {ret : Option FieldType} {w1 : zw_T} {st0 : List Value} {a : Nat} (As : List Value) (hM : ∀ l : Launch, zc l y ws fry loy sfy mcy D G A (.ref a :: As) w (none, w1)) (hret : ret = none) (hy1 : y.name = "<init>") (hG : GoodIn zT ws) (hli : Cond.methodLink own idx y ∈ zT) (hini : Cond.initialized y.cls ∈ zT) (hinst : Cond.instanceMethod y ∈ zT) (hw : ws = Cond.code y bytes maxL ret :: ws') (hd0 : y.cls ≠ "java/lang/invoke/MethodHandle" ∧ y.cls ≠ "java/lang/invoke/VarHandle" ∧ (parseMethodDescriptor y.desc).map (fun d => d.parameters.length) = some As.length) (hR : fry + 1 ≤ fr ∧ 8 + (maxL + 11) + loy ≤ lo) (hsf : sfy ≤ sf) (hcell : ck + mcy ≤ mc) (hcat : (st.map fun v => v.category).sum ≤ 8) (hll : lv.length = nL) (hst : st0 = As.reverse ++ .ref a :: st) (hX : zg_ok X cc own nL fr lo sf mc D G A) (hd : decode cc pc = .ok (.invokespecial idx, 3)) (kk : zg X D G A Q sf (ck + mcy) w1 (pc + 3) lv st) : zg X D G A Q sf ck w pc lv st0 := zg_callI As hM hret hy1 hG hli hini hinst hw hd0 hR hsf hcell hcat hll hst hX hd kk
theorem zg_callIN_v {X : zg_X} {D : va_G} {G : zw_G} {A : Nat → Prop} {Q : State → Prop} {sf ck : Nat} {w : zw_T} {pc : Nat} {lv : List (Option Value)} {st : List Value} {cc : ByteArray} {own : String} {nL fr lo mc : Nat} {y : MethodName} {ws ws' : List Cond} {bytes : ByteArray} {maxL idx fry loy sfy mcy : Nat} {ret : Option FieldType} {w1 : zw_T} {st0 : List Value} {a : Nat} {host : String} (As : List Value) (hM : ∀ l : Launch, zc l y ws fry loy sfy mcy D G A (.ref a :: As) w (none, w1)) (hret : ret = none) (hy1 : y.name = "<init>") (hG : GoodIn zT ws) (hln : (own, idx, y, host) ∈ zn_L) (hini : Cond.initialized y.cls ∈ zT) (hinst : Cond.instanceMethod y ∈ zT) (hw : ws = Cond.code y bytes maxL ret :: ws') (hd0 : y.cls ≠ "java/lang/invoke/MethodHandle" ∧ y.cls ≠ "java/lang/invoke/VarHandle" ∧ (parseMethodDescriptor y.desc).map (fun d => d.parameters.length) = some As.length) (hR : fry + 1 ≤ fr ∧ 8 + (maxL + 11) + loy ≤ lo) (hsf : sfy ≤ sf) (hcell : ck + mcy ≤ mc) (hcat : (st.map fun v => v.category).sum ≤ 8) (hll : lv.length = nL) (hst : st0 = As.reverse ++ .ref a :: st) (hX : zg_ok X cc own nL fr lo sf mc D G A) (hd : decode cc pc = .ok (.invokespecial idx, 3)) (kk : zg X D G A Q sf (ck + mcy) w1 (pc + 3) lv st) : zg X D G A Q sf ck w pc lv st0 := zg_callIN As hM hret hy1 hG hln hini hinst hw hd0 hR hsf hcell hcat hll hst hX hd kk
theorem zg_oinit {X : zg_X} {D : va_G} {G : zw_G} {A : Nat → Prop} {Q : State → Prop} {sf ck : Nat} {w : zw_T} {pc : Nat} {lv : List (Option Value)} {st : List Value} {cc : ByteArray} {own : String} {nL fr lo mc : Nat} {idx : Nat} (hli : Cond.methodLink own idx objectInit ∈ zT) (hinst : Cond.instanceMethod objectInit ∈ zT) (hcode : Cond.code objectInit ⟨#[0xb1]⟩ 1 none ∈ zT) {a : Nat} (hfr1 : 1 ≤ fr) (hlo1 : (st.map fun v => v.category).sum + 12 ≤ lo) (hll : lv.length = nL) (hX : zg_ok X cc own nL fr lo sf mc D G A) (hd : decode cc pc = .ok (.invokespecial idx, 3)) (kk : zg X D G A Q sf ck w (pc + 3) lv st) : zg X D G A Q sf ck w pc lv (va_rf (some a) :: st) := by
  obtain ⟨p, l, e, R, s, m, args, below, meth, c⟩ := X
  obtain ⟨hx, hb, hml, ho, hts, hK, hA, hlk, hfr, hR1, hR2, hlo, hZ⟩ := hX
  intro H locs ls h1 h2 h3
  exact W.objInit hx hb ho (hts _ hli) (hts _ hinst) (hts _ hcode) rfl (by show ls.size = c.maxLocals; rw [h1.1, hml]; exact hll) rfl hd (by rw [hfr]; exact hfr1) (by rw [hlo]; show 2 * 0 + _ + 12 ≤ lo; omega) (kk H locs ls h1 h2 h3)
theorem zg_copy {X : zg_X} {D : va_G} {G : zw_G} {A : Nat → Prop} {Q : State → Prop} {sf ck : Nat} {w : zw_T} {pc : Nat} {lv : List (Option Value)} {st : List Value} {cc : ByteArray} {own : String} {nL fr lo mc : Nat} {k0 k1 idx : Nat} (ha1 : 100 ≤ k0) (ha2 : k0 < 200) (hb1 : 100 ≤ k1) (hb2 : k1 < 200) (hli : Cond.methodLink own idx arraycopyName ∈ zT) (hnat : Cond.native arraycopyName ∈ zT) (hstat : Cond.static arraycopyName ∈ zT) (hini : Cond.initialized "java/lang/System" ∈ zT) {o0 o1 : Option Nat} {sp dp n : Int32} {ρ : Type} {r : ρ} {K : zw_T → Option ρ} (hfr1 : 1 ≤ fr) (hlo1 : (st.map fun v => v.category).sum + (nativeFrameWords "java/lang/System" "arraycopy" 5 + 11) ≤ lo) (hll : lv.length = nL) (hX : zg_ok X cc own nL fr lo sf mc D G A) (hd : decode cc pc = .ok (.invokestatic idx, 3)) (h : zf_cp w k0 k1 o0 sp o1 dp n K = some r) (kk : ∀ w1, K w1 = some r → zg X D G A Q sf ck w1 (pc + 3) lv st) : zg X D G A Q sf ck w pc lv (.int n :: .int dp :: va_rf o1 :: .int sp :: va_rf o0 :: st) := by
  unfold zf_cp at h
  cases o0 with
  | none => cases h
  | some a0 =>
    cases o1 with
    | none => cases h
    | some a1 =>
      by_cases hq : (zw_ty w a0).1 = k0 ∧ (zw_ty w a1).1 = k1 ∧ ¬ sp < 0 ∧ ¬ dp < 0 ∧ ¬ n < 0 ∧ sp.toNatClampNeg + n.toNatClampNeg ≤ (zw_ty w a0).2 ∧ dp.toNatClampNeg + n.toNatClampNeg ≤ (zw_ty w a1).2
      · simp only [if_pos hq] at h
        obtain ⟨t0, t1, c1, c2, c3, c4, c5⟩ := hq
        obtain ⟨p, l, e, R, s, m, args, below, meth, c⟩ := X
        obtain ⟨hx, hb, hml, ho, hts, hK, hA, hlk, hfr, hR1, hR2, hlo, hZ⟩ := hX
        intro H locs ls h1 h2 h3 T hT X
        have nn : ∀ z : Int32, ¬ z < 0 → z.toInt = (z.toNatClampNeg : Int) := by
          intro z hz
          have hz0 : (0 : Int) ≤ z.toInt := by
            have := Int32.not_lt.mp hz
            simpa using Int32.le_iff_toInt_le.mp this
          show z.toInt = ((z.toInt.toNat : Nat) : Int)
          omega
        have v0 := (h2.2 a0 (by rw [t0]; omega)).1
        have v1 := h2.2 a1 (by rw [t1]; omega)
        have hAa := v1.2
        have v1 := v1.1
        rw [zw_cell_i t0 ha1 ha2] at v0
        rw [zw_cell_i t1 hb1 hb2] at v1
        have v0 : H[a0]? = some (vp_cell G.1 ((zw_ty w a0).2, .inl (zw_I w k0 a0))) := v0
        have v1 : H[a1]? = some (vp_cell G.1 ((zw_ty w a1).2, .inl (zw_I w k1 a1))) := v1
        obtain ⟨-, kc0, hk0, cm0, hkk0⟩ := (hK.2 0 (G.1, .int) rfl).1 (zw_ty w a0).2 (fun j => .int (zw_I w k0 a0 j))
        obtain ⟨-, kc1, hk1, cm1, hkk1⟩ := (hK.2 0 (G.1, .int) rfl).1 (zw_ty w a1).2 (fun j => .int (zw_I w k1 a1 j))
        obtain ⟨vm', X', step⟩ := X.arraycopy hx ho (hts _ hli) (hts _ hnat) (hts _ hstat) (hts _ hini) (src := a0) (dst := a1) (cs := vp_cell G.1 ((zw_ty w a0).2, .inl (zw_I w k0 a0))) (cd := vp_cell G.1 ((zw_ty w a1).2, .inl (zw_I w k1 a1))) (srcPos := sp) (destPos := dp) (n := n) (by rw [hT]; exact v0) (by rw [hT]; exact v1)
          (fun _ h => by cases h) (fun _ h => by cases h) (fun h => by cases h) (fun h => by cases h) hk0 hk1 hkk0 hkk1 rfl c1 c2 c3
          (by rw [nn sp c1, nn n c3]; show ¬ _ > ((arrV _ _ _).slots.size : Int); rw [arrV_size]; omega)
          (by rw [nn dp c2, nn n c3]; show ¬ _ > ((arrV _ _ _).slots.size : Int); rw [arrV_size]; omega)
          (fun vm₁ _ i hi => by
            have e : (vp_cell G.1 ((zw_ty w a0).2, .inl (zw_I w k0 a0))).slots.getD (sp.toNatClampNeg + i) .null = .int (zw_I w k0 a0 (sp.toNatClampNeg + i)) := by
              show (arrV _ _ _).slots.getD _ _ = _
              rw [Array.getD_eq_getD_getElem?, arrV_read _ _ (by omega)]
              rfl
            refine ⟨?_, ?_⟩
            · rw [e]
              rfl
            · rw [e]
              exact trivial)
          (g := F0 m pc ls (.int n :: .int dp :: .ref a1 :: .int sp :: .ref a0 :: st)) rfl (by show ls.size = c.maxLocals; rw [h1.1, hml]; exact hll) (rest := st) rfl (by rw [hb]; exact hd) (by rw [hfr]; exact hfr1) (by rw [hlo]; show 2 * 0 + _ + _ ≤ lo; omega)
        have e1 : copied (vp_cell G.1 ((zw_ty w a0).2, .inl (zw_I w k0 a0))) (vp_cell G.1 ((zw_ty w a1).2, .inl (zw_I w k1 a1))) sp dp n = vp_cell G.1 ((zw_ty w a1).2, .inl (va_cpy (zw_I w k0 a0) (zw_I w k1 a1) sp.toNatClampNeg dp.toNatClampNeg n.toNatClampNeg)) := va_copied (fun z => .int z) _ _ _ _ c4
        rw [e1] at X' step
        have hl : a1 < H.size := (Array.getElem?_eq_some_iff.mp v1).1
        generalize hcv : vp_cell G.1 ((zw_ty w a1).2, .inl (va_cpy (zw_I w k0 a0) (zw_I w k1 a1) sp.toNatClampNeg dp.toNatClampNeg n.toNatClampNeg)) = cv at X' step
        have hheap : ((T.setVm vm').setCell a1 cv).heap = H.setIfInBounds a1 cv := by rw [← hT]; rfl
        have oq : ∀ q : Nat, q ≠ a1 → (H.setIfInBounds a1 cv)[q]? = H[q]? := fun q hq => by simp [Array.getElem?_setIfInBounds, Ne.symm hq]
        have sq : (H.setIfInBounds a1 cv)[a1]? = some cv := by simp [Array.getElem?_setIfInBounds, hl]
        have zq : (H.setIfInBounds a1 cv).size = H.size := by simp
        obtain ⟨t, b1, b2⟩ := kk _ h (H.setIfInBounds a1 cv) _ ls h1 (zw_move h2 rfl rfl (fun b hb => zw_sF_ne hb) (by
            rw [zw_cell_i (w := zw_sF w k1 a1 (va_cpy (zw_I w k0 a0) (zw_I w k1 a1) sp.toNatClampNeg dp.toNatClampNeg n.toNatClampNeg)) (kd := k1) t1 hb1 hb2]
            show _ = some (vp_cell _ (_, .inl (zw_u2 (α := Nat → Int32) _ _ _ _ _ _)))
            rw [zw_u2_eq, sq, ← hcv]
            rfl) zq oq) ⟨by rw [zq]; exact h3.1, fun q g1 g2 => by
            rw [oq q (fun e => g2 (by rw [e]; exact hAa))]
            exact h3.2.1 q g1 g2, fun q hq => by
            rcases List.mem_append.mp hq with h | h
            · exact h3.2.2 q h
            · obtain ⟨z, -, hz⟩ := List.mem_map.mp h
              rw [← hz]
              exact hAa⟩ _ hheap X'
        exact ⟨t, step t b1, b2⟩
      · simp only [if_neg hq] at h
        cases h
theorem zg_castI {X : zg_X} {D : va_G} {G : zw_G} {A : Nat → Prop} {Q : State → Prop} {sf ck : Nat} {w : zw_T} {pc : Nat} {lv : List (Option Value)} {st : List Value} {cc : ByteArray} {own : String} {nL fr lo mc : Nat} {idx a : Nat} (hli : Cond.classLink own idx "[I" ∈ zT) (ht : (zw_ty w a).1 = 105) (hX : zg_ok X cc own nL fr lo sf mc D G A) (hd : decode cc pc = .ok (.checkcast idx, 3)) (kk : zg X D G A Q sf ck w (pc + 3) lv (va_rf (some a) :: st)) : zg X D G A Q sf ck w pc lv (va_rf (some a) :: st) := by
  obtain ⟨p, l, e, R, s, m, args, below, meth, c⟩ := X
  obtain ⟨hx, hb, hml, ho, hts, hK, hA, hlk, hfr, hR1, hR2, hlo, hZ⟩ := hX
  intro H locs ls h1 h2 h3
  have hv := (h2.2 a (by rw [ht]; omega)).1
  rw [zw_cell_i ht (by decide) (by decide)] at hv
  have e0 : "[" ++ FieldType.int.toString = "[I" := by decide
  have hn : s.vm.findClass ("[" ++ FieldType.int.toString) = some G.1 := (hK.2 0 (G.1, .int) rfl).2
  rw [e0] at hn
  exact va_castA hx hb ho (hts _ hli) (zw_one hv) 0 rfl hn hd (kk H locs ls h1 h2 h3)
theorem zg_clone {X : zg_X} {D : va_G} {G : zw_G} {A : Nat → Prop} {Q : State → Prop} {sf ck : Nat} {w : zw_T} {pc : Nat} {lv : List (Option Value)} {st : List Value} {cc : ByteArray} {own : String} {nL fr lo mc : Nat} {k0 k1 idx : Nat} (hs8 : 128 ≤ sf) (ha1 : 100 ≤ k0) (ha2 : k0 < 200) (hb1 : 100 ≤ k1) (hb2 : k1 < 200) (hli : Cond.methodLink own idx ⟨"[I", "clone", "()Ljava/lang/Object;"⟩ ∈ zT) (hsm : Cond.sameMethod "[I" "java/lang/Object" "clone" "()Ljava/lang/Object;" ∈ zT) (hnat : Cond.native ⟨"java/lang/Object", "clone", "()Ljava/lang/Object;"⟩ ∈ zT) (hinst : Cond.instanceMethod ⟨"java/lang/Object", "clone", "()Ljava/lang/Object;"⟩ ∈ zT) (hsel : Cond.selects "[I" ⟨"[I", "clone", "()Ljava/lang/Object;"⟩ ⟨"java/lang/Object", "clone", "()Ljava/lang/Object;"⟩ ∈ zT) {o : Option Nat} {ρ : Type} {r : ρ} {K : zw_T → Option ρ} (hcell : ck + 1 ≤ mc) (hfr1 : 1 ≤ fr) (hlo1 : (st.map fun v => v.category).sum + 14 ≤ lo) (hll : lv.length = nL) (hX : zg_ok X cc own nL fr lo sf mc D G A) (hd : decode cc pc = .ok (.invokevirtual idx, 3)) (h : zf_cl w k0 k1 o K = some r) (kk : ∀ w1, (zw_ty w1 (zw_n w)).1 = k1 → K w1 = some r → zg X D G A Q sf (ck + 1) w1 (pc + 3) lv (va_rf (some (zw_n w)) :: st)) : zg X D G A Q sf ck w pc lv (va_rf o :: st) := by
  unfold zf_cl at h
  cases o with
  | none => cases h
  | some a =>
    by_cases hq : (zw_ty w a).1 = k0 ∧ (zw_ty w a).2 ≤ 128
    · simp only [if_pos hq] at h
      obtain ⟨ht, hsz⟩ := hq
      have hsl : sf * (ck + 1) = sf * ck + sf := Nat.mul_succ sf ck
      have hsm9 : sf * (ck + 1) ≤ sf * mc := Nat.mul_le_mul_left sf hcell
      obtain ⟨p, l, e, R, s, m, args, below, meth, c⟩ := X
      obtain ⟨hx, hb, hml, ho, hts, hK, hA, hlk, hfr, hR1, hR2, hlo, hZ⟩ := hX
      intro H locs ls h1 h2 h3 T hT X
      have hv := (h2.2 a (by rw [ht]; omega)).1
      rw [zw_cell_i ht ha1 ha2] at hv
      have hv : H[a]? = some (arrV G.1 (zw_ty w a).2 (fun j => .int (zw_I w k0 a j))) := hv
      have e0 : "[" ++ FieldType.int.toString = "[I" := by decide
      have hn : s.vm.findClass ("[" ++ FieldType.int.toString) = some G.1 := (hK.2 0 (G.1, .int) rfl).2
      rw [e0] at hn
      obtain ⟨c0, t0', f1, f2, f3⟩ := Cond.castable_spec (va_Nw.use (A := args) rfl hZ.1.2.2)
      cases hn.symm.trans f1
      obtain ⟨-, kA, hkA, comp, hkind⟩ := State.isArrayOf_alike X.warmed.alike ((hK.2 0 (G.1, .int) rfl).1 0 (fun _ => .null))
      obtain ⟨-, kS, hkS, compS, hkindS⟩ := (hK.2 0 (G.1, .int) rfl).1 0 (fun _ => .null)
      obtain ⟨vm', X', sp⟩ := X.cloneArray hx ho (hts _ hli) (hts _ hsm) (hts _ hnat) (hts _ hinst) (hts _ hsel) (a := a) (cell := arrV G.1 (zw_ty w a).2 (fun j => .int (zw_I w k0 a j))) (by rw [hT]; exact hv) (fun k h => by cases h) (fun h => by cases h) hn f2 f3
        (fun i v hv' => by
          have hk' : T.vm.classes[G.1]? = some kA := hkA
          have hil := (Array.getElem?_eq_some_iff.mp hv').1
          rw [arrV_size] at hil
          rw [arrV_read _ _ hil] at hv'
          cases hv'
          show T.fitsSlot G.1 .none i _ = true
          simp [State.fitsSlot, State.slotType?, hk', hkind]
          rfl)
        (g := F0 m pc ls (.ref a :: st)) rfl (by show ls.size = c.maxLocals; rw [h1.1, hml]; exact hll) rfl (by rw [hb]; exact hd) (by rw [hfr]; exact hfr1) (by rw [hlo]; show 2 * 0 + _ + 14 ≤ lo; omega) (Nat.le_trans hcell hR1) (by rw [arrV_size]; omega) (hloader := Vm.clonesLoader_of_array hkS hkindS)
      rw [arrV_size] at X'
      have hz : H.size = zw_n w := h2.1
      generalize hcv : arrV G.1 (zw_ty w a).2 (fun j => .int (zw_I w k0 a j)) = cv at X' sp
      have hcE : ({ cls := cv.cls, slots := cv.slots } : Cell) = cv := by rw [← hcv]; rfl
      rw [hcE] at X' sp
      generalize hH1 : H.push cv = H1
      have z1 : H1.size = H.size + 1 := by rw [← hH1, Array.size_push]
      have e1 : H1[H.size]? = some cv := by rw [← hH1, Array.getElem?_push_size]
      have o1 : ∀ q : Nat, q < H.size → H1[q]? = H[q]? := fun q hq => by rw [← hH1, Array.getElem?_push, if_neg (Nat.ne_of_lt hq)]
      rw [hz] at e1
      have hok : zw_ok D G A (zw_sF (zw_new w k1 (zw_ty w a).2) k1 (zw_n w) (zw_I w k0 a)) H1 := by
        refine ⟨by rw [z1, hz]; rfl, fun b hb9 => ?_⟩
        by_cases hba : b = zw_n w
        · subst hba
          refine ⟨?_, hA _ (by rw [← hz]; exact h3.1)⟩
          rw [zw_cell_i (w := zw_sF (zw_new w k1 (zw_ty w a).2) k1 (zw_n w) (zw_I w k0 a)) (kd := k1) (by show (zw_ty (zw_new w k1 (zw_ty w a).2) (zw_n w)).1 = k1; rw [zw_new_ty]) hb1 hb2]
          show H1[zw_n w]? = some (vp_cell G.1 ((zw_ty (zw_new w k1 (zw_ty w a).2) (zw_n w)).2, .inl (zw_u2 (α := Nat → Int32) _ _ _ _ _ _)))
          rw [zw_u2_eq, zw_new_ty, e1, ← hcv]
          rfl
        · have g1 : zw_ty (zw_new w k1 (zw_ty w a).2) b = zw_ty w b := va_up_ne _ _ hba
          have g5 : zw_cell G (zw_sF (zw_new w k1 (zw_ty w a).2) k1 (zw_n w) (zw_I w k0 a)) b = zw_cell G w b := by
            rw [zw_sF_ne hba]
            exact zw_same g1 (fun _ => if_neg hba) (fun _ => if_neg hba) (fun _ => if_neg hba)
          have hb8 : (zw_ty w b).1 ≠ 0 := by
            rw [← g1]
            exact hb9
          rw [g5]
          exact ⟨(h2.2 b hb8).1.kept (o1 b (h2.2 b hb8).1.lt), (h2.2 b hb8).2⟩
      obtain ⟨t, b1, b2⟩ := W.widen (k := ck + 1) (n := sf * (ck + 1)) (Nat.le_refl _) (by omega) (kk _ (by show (zw_ty (zw_new w k1 (zw_ty w a).2) (zw_n w)).1 = k1; rw [zw_new_ty]) h H1 locs ls h1 hok ⟨Nat.le_trans h3.1 (by omega), fun q g1 g2 => (o1 q (Nat.lt_of_lt_of_le g1 h3.1)).trans (h3.2.1 q g1 g2), h3.2.2⟩) ((T.setVm vm').pushCell cv) (by rw [← hH1, ← hT]; rfl) X'
      refine ⟨t, sp t ?_, b2⟩
      rw [hT, hz]
      exact b1
    · simp only [if_neg hq] at h
      cases h
