/-! the law's loop and its start, over any relation that every call keeps -/
theorem zk_eqo {y c : Option Nat} (h : (if y = c then some () else none) = some ()) : y = c := by
  by_cases hq : y = c
  · exact hq
  · rw [if_neg hq] at h
    cases h
theorem zo_cmp {L i : Nat} (hL : L ≤ 2048) (hi : i ≤ 4096) : nI L - (4 : Int32) < nI i ↔ L < i + 4 := by
  have e : (nI L - nI 4).toInt = (L : Int) - 4 := pk_sub_toInt (by omega) (by omega)
  have e2 : (nI i).toInt = (i : Int) := nI_toInt (by omega)
  rw [Int32.lt_iff_toInt_lt]
  show (nI L - nI 4).toInt < _ ↔ _
  rw [e, e2]
  omega
set_option maxHeartbeats 4000000 in
set_option maxRecDepth 100000 in
theorem zo_loop {X : zg_X} {D : va_G} {G : zw_G} {A : Nat → Prop} {Q : State → Prop} {S : zw_T → zw_T → Prop} {F b x m L : Nat} {xs : Nat → Int32} (hX : zg_ok X code "WakingPagersLaw" 4 9 336 128 13000 D G A) (hS : zs_X X A b L xs) (hL : L ≤ 2048) (hmv : ∀ u1 u2 n, S u1 u2 → S (zw_mv u1 n) u2) (hty : ∀ u1 u2, S u1 u2 → (zw_ty u1 x).1 = 9 ∧ (zw_ty u2 m).1 = 10) (hop : zo_all F x m S)
    (hend : ∀ (w : zw_T) (ck i : Nat), ck ≤ 13000 → zg X D G A Q 128 ck w 698 (zo_lv b x m i) []) : ∀ (r i ck : Nat) (w1 w2 : zw_T), L ≤ i + 4 * r → i ≤ 4096 → ck + 23 * r ≤ 13000 → S w1 w2 → zw_dj w1 w2 → zw_n w2 = zw_n w1 → zg X D G A Q 128 ck (zw_U w1 w2) 18 (zo_lv b x m i) [] := by
  intro r
  induction r with
  | zero =>
    intro i ck w1 w2 h1 h2 h3 hs hdj hnn
    refine zg_iload_n hX dL_18 rfl ?_
    refine zg_aload_n (x := (some b)) hX dL_19 rfl ?_
    refine zg_slen hS hX dL_20 ?_
    refine zg_iconst hX dL_21 (4 : Int32) (by decide) ?_
    refine zg_isub hX dL_22 ?_
    refine zg_icmp_gt (ra := some ()) (rb := none) (r := ()) (tgt := 698) hX dL_23 rfl (if_pos ((zo_cmp hL h2).mpr (by omega))) (fun _ => ?_) (fun q => by cases q)
    exact hend _ _ _ (by omega)
  | succ r ih =>
    intro i ck w1 w2 h1 h2 h3 hs hdj hnn
    refine zg_iload_n hX dL_18 rfl ?_
    refine zg_aload_n (x := (some b)) hX dL_19 rfl ?_
    refine zg_slen hS hX dL_20 ?_
    refine zg_iconst hX dL_21 (4 : Int32) (by decide) ?_
    refine zg_isub hX dL_22 ?_
    by_cases hi : i + 4 ≤ L
    · refine zg_icmp_gt (ra := none) (rb := some ()) (r := ()) (tgt := 698) hX dL_23 rfl (if_neg (fun q => by have := (zo_cmp hL h2).mp q; omega)) (fun q => by cases q) (fun _ => ?_)
      refine zg_aload_n (x := (some b)) hX dL_26 rfl ?_
      refine zg_iload_n hX dL_27 rfl ?_
      refine zg_sld hS (by omega) (by omega) hX dL_28 ?_
      refine zg_bipush hX dL_29 (31 : Int32) (by decide) ?_
      refine zg_iand hX dL_31 ?_
      obtain ⟨j, hj, e⟩ := pk_andE (xs i) (m := 31) 5 (by decide)
      refine zg_eqi e ?_
      obtain ⟨t1, t2⟩ := hty w1 w2 hs
      refine zo_sw hX hS hL hi hdj hnn t1 t2 (by omega) hmv hop hs hj (fun u1 u2 ks kd kn => ?_)
      refine zg_iinc (K := fun y => if y = nI (i + 4) then some () else none) (r := ()) hX dL_692 (4 : Int32) rfl (by decide) (Nat.le_of_ble_eq_true rfl) rfl (by unfold zf_let; exact if_pos (nI_add i 4)) (fun y q => ?_)
      obtain rfl := zk_eq q
      refine zg_goto (tgt := 18) hX dL_695 rfl ?_
      exact ih (i + 4) (ck + 23) u1 u2 (by omega) (by omega) (by omega) ks kd kn
    · refine zg_icmp_gt (ra := some ()) (rb := none) (r := ()) (tgt := 698) hX dL_23 rfl (if_pos ((zo_cmp hL h2).mpr (by omega))) (fun _ => ?_) (fun q => by cases q)
      exact hend _ _ _ (by omega)
def zw_E (n : Nat) : zw_T := ((fun _ => (0, 0)), (fun _ _ _ => 0), (fun _ _ _ => none), (fun _ _ _ => 0), n)
theorem zw_congr {D : va_G} {G : zw_G} {A : Nat → Prop} {w w' : zw_T} {H : Heap} (hn : zw_n w' = zw_n w) (hc : ∀ a, zw_ty w' a = zw_ty w a ∧ zw_cell G w' a = zw_cell G w a) (h : zw_ok D G A w H) : zw_ok D G A w' H := ⟨by rw [hn]; exact h.1, fun a ha => by rw [(hc a).2]; exact h.2 a (by rw [← (hc a).1]; exact ha)⟩
theorem zu_newC {D : va_G} {G : zw_G} {A : Nat → Prop} {w1 w2 : zw_T} {kd k : Nat} (hk : kd ≠ 0) (H : Heap) (h : zw_ok D G A (zw_new (zw_U w1 w2) kd k) H) : zw_ok D G A (zw_U (zw_new w1 kd k) (zw_mv w2 (zw_n w1 + 1))) H := by
  refine zw_congr (w := zw_new (zw_U w1 w2) kd k) rfl (fun a => ?_) h
  by_cases ha : a = zw_n w1
  · subst ha
    have h0 : zw_ty (zw_new w1 kd k) (zw_n w1) = (kd, k) := zw_new_ty
    have h1 : ¬ (zw_ty (zw_new w1 kd k) (zw_n w1)).1 = 0 := by rw [h0]; exact hk
    have h2 : zw_ty (zw_new (zw_U w1 w2) kd k) (zw_n w1) = (kd, k) := zw_new_ty (w := zw_U w1 w2)
    have e : zw_ty (zw_U (zw_new w1 kd k) (zw_mv w2 (zw_n w1 + 1))) (zw_n w1) = zw_ty (zw_new (zw_U w1 w2) kd k) (zw_n w1) := by rw [zw_U1t h1, h0, h2]
    refine ⟨e, zw_same e (fun q => ?_) (fun q => ?_) (fun q => ?_)⟩
    · exact (if_neg h1).trans ((if_pos rfl).trans (if_pos (show zw_n w1 = zw_n (zw_U w1 w2) from rfl)).symm)
    · exact (if_neg h1).trans ((if_pos rfl).trans (if_pos (show zw_n w1 = zw_n (zw_U w1 w2) from rfl)).symm)
    · exact (if_neg h1).trans ((if_pos rfl).trans (if_pos (show zw_n w1 = zw_n (zw_U w1 w2) from rfl)).symm)
  · have h0 : zw_ty (zw_new w1 kd k) a = zw_ty w1 a := va_up_ne _ _ ha
    have h2 : zw_ty (zw_new (zw_U w1 w2) kd k) a = zw_ty (zw_U w1 w2) a := va_up_ne _ _ ha
    have n1 : ∀ q, zw_I (zw_new (zw_U w1 w2) kd k) q a = zw_I (zw_U w1 w2) q a := fun q => if_neg ha
    have n2 : ∀ q, zw_R (zw_new (zw_U w1 w2) kd k) q a = zw_R (zw_U w1 w2) q a := fun q => if_neg ha
    have n3 : ∀ q, zw_L (zw_new (zw_U w1 w2) kd k) q a = zw_L (zw_U w1 w2) q a := fun q => if_neg ha
    by_cases hz : (zw_ty w1 a).1 = 0
    · have hz' : (zw_ty (zw_new w1 kd k) a).1 = 0 := by rw [h0]; exact hz
      have e : zw_ty (zw_U (zw_new w1 kd k) (zw_mv w2 (zw_n w1 + 1))) a = zw_ty (zw_new (zw_U w1 w2) kd k) a := by rw [zw_U2t hz', h2, zw_U2t hz]; rfl
      refine ⟨e, zw_same e (fun q => ?_) (fun q => ?_) (fun q => ?_)⟩
      · rw [n1]; exact (if_pos hz').trans (if_pos hz).symm
      · rw [n2]; exact (if_pos hz').trans (if_pos hz).symm
      · rw [n3]; exact (if_pos hz').trans (if_pos hz).symm
    · have hz' : ¬ (zw_ty (zw_new w1 kd k) a).1 = 0 := by rw [h0]; exact hz
      have e : zw_ty (zw_U (zw_new w1 kd k) (zw_mv w2 (zw_n w1 + 1))) a = zw_ty (zw_new (zw_U w1 w2) kd k) a := by rw [zw_U1t hz', h2, zw_U1t hz, h0]
      refine ⟨e, zw_same e (fun q => ?_) (fun q => ?_) (fun q => ?_)⟩
      · rw [n1]; exact (if_neg hz').trans ((if_neg ha).trans (if_neg hz).symm)
      · rw [n2]; exact (if_neg hz').trans ((if_neg ha).trans (if_neg hz).symm)
      · rw [n3]; exact (if_neg hz').trans ((if_neg ha).trans (if_neg hz).symm)
theorem zu_newM {D : va_G} {G : zw_G} {A : Nat → Prop} {w1 w2 : zw_T} {kd k : Nat} (hb : (zw_ty w1 (zw_n w1)).1 = 0) (hnn : zw_n w2 = zw_n w1) (H : Heap) (h : zw_ok D G A (zw_new (zw_U w1 w2) kd k) H) : zw_ok D G A (zw_U (zw_mv w1 (zw_n w1 + 1)) (zw_new w2 kd k)) H := by
  refine zw_congr (w := zw_new (zw_U w1 w2) kd k) rfl (fun a => ?_) h
  have h9 : zw_ty (zw_mv w1 (zw_n w1 + 1)) a = zw_ty w1 a := rfl
  by_cases ha : a = zw_n w1
  · subst ha
    have h0 : zw_ty (zw_new w2 kd k) (zw_n w1) = (kd, k) := by rw [← hnn]; exact zw_new_ty
    have hb' : (zw_ty (zw_mv w1 (zw_n w1 + 1)) (zw_n w1)).1 = 0 := hb
    have h2 : zw_ty (zw_new (zw_U w1 w2) kd k) (zw_n w1) = (kd, k) := zw_new_ty (w := zw_U w1 w2)
    have e : zw_ty (zw_U (zw_mv w1 (zw_n w1 + 1)) (zw_new w2 kd k)) (zw_n w1) = zw_ty (zw_new (zw_U w1 w2) kd k) (zw_n w1) := by rw [zw_U2t hb', h0, h2]
    refine ⟨e, zw_same e (fun q => ?_) (fun q => ?_) (fun q => ?_)⟩
    · exact (if_pos hb').trans ((if_pos hnn.symm).trans (if_pos (show zw_n w1 = zw_n (zw_U w1 w2) from rfl)).symm)
    · exact (if_pos hb').trans ((if_pos hnn.symm).trans (if_pos (show zw_n w1 = zw_n (zw_U w1 w2) from rfl)).symm)
    · exact (if_pos hb').trans ((if_pos hnn.symm).trans (if_pos (show zw_n w1 = zw_n (zw_U w1 w2) from rfl)).symm)
  · have ha2 : ¬ a = zw_n w2 := by rw [hnn]; exact ha
    have h0 : zw_ty (zw_new w2 kd k) a = zw_ty w2 a := va_up_ne _ _ ha2
    have h2 : zw_ty (zw_new (zw_U w1 w2) kd k) a = zw_ty (zw_U w1 w2) a := va_up_ne _ _ ha
    have n1 : ∀ q, zw_I (zw_new (zw_U w1 w2) kd k) q a = zw_I (zw_U w1 w2) q a := fun q => if_neg ha
    have n2 : ∀ q, zw_R (zw_new (zw_U w1 w2) kd k) q a = zw_R (zw_U w1 w2) q a := fun q => if_neg ha
    have n3 : ∀ q, zw_L (zw_new (zw_U w1 w2) kd k) q a = zw_L (zw_U w1 w2) q a := fun q => if_neg ha
    by_cases hz : (zw_ty w1 a).1 = 0
    · have hz' : (zw_ty (zw_mv w1 (zw_n w1 + 1)) a).1 = 0 := hz
      have e : zw_ty (zw_U (zw_mv w1 (zw_n w1 + 1)) (zw_new w2 kd k)) a = zw_ty (zw_new (zw_U w1 w2) kd k) a := by rw [zw_U2t hz', h2, zw_U2t hz, h0]
      refine ⟨e, zw_same e (fun q => ?_) (fun q => ?_) (fun q => ?_)⟩
      · rw [n1]; exact (if_pos hz').trans ((if_neg ha2).trans (if_pos hz).symm)
      · rw [n2]; exact (if_pos hz').trans ((if_neg ha2).trans (if_pos hz).symm)
      · rw [n3]; exact (if_pos hz').trans ((if_neg ha2).trans (if_pos hz).symm)
    · have hz' : ¬ (zw_ty (zw_mv w1 (zw_n w1 + 1)) a).1 = 0 := hz
      have e : zw_ty (zw_U (zw_mv w1 (zw_n w1 + 1)) (zw_new w2 kd k)) a = zw_ty (zw_new (zw_U w1 w2) kd k) a := by rw [zw_U1t hz', h2, zw_U1t hz]; rfl
      refine ⟨e, zw_same e (fun q => ?_) (fun q => ?_) (fun q => ?_)⟩
      · rw [n1]; exact (if_neg hz').trans (if_neg hz).symm
      · rw [n2]; exact (if_neg hz').trans (if_neg hz).symm
      · rw [n3]; exact (if_neg hz').trans (if_neg hz).symm
/-- the two objects are made, and the loop begins -/
def zo_ini (F : Nat) (S : Nat → Nat → zw_T → zw_T → Prop) : Prop := ∀ n, ∃ w1, zf_WP_init F (zw_new (zw_E n) 9 0) n = some w1 ∧ ∀ k, ∃ w2, zf_Mo_init F (zw_new (zw_E k) 10 0) k = some w2 ∧ S n k w1 w2
set_option maxHeartbeats 4000000 in
set_option maxRecDepth 100000 in
theorem zo_start {X : zg_X} {D : va_G} {G : zw_G} {A : Nat → Prop} {Q : State → Prop} {S : Nat → Nat → zw_T → zw_T → Prop} {F b L : Nat} {xs : Nat → Int32} (hX : zg_ok X code "WakingPagersLaw" 4 9 336 128 13000 D G A) (hS : zs_X X A b L xs) (hL : L ≤ 2048) (hmv : ∀ x m u1 u2 n, S x m u1 u2 → S x m (zw_mv u1 n) u2) (hty : ∀ x m u1 u2, S x m u1 u2 → (zw_ty u1 x).1 = 9 ∧ (zw_ty u2 m).1 = 10) (hop : ∀ x m, zo_all F x m (S x m)) (hini : zo_ini F S)
    (hend : ∀ (w : zw_T) (ck x m i : Nat), ck ≤ 13000 → zg X D G A Q 128 ck w 698 (zo_lv b x m i) []) (n : Nat) : zg X D G A Q 128 0 (zw_U (zw_E n) (zw_E n)) 0 [some (va_rf (some b)), none, none, none] [] := by
  obtain ⟨w1, e1, hk⟩ := hini n
  refine zg_new (ci := 8) (K := some) (r := zw_new (zw_U (zw_E n) (zw_E n)) 9 0) hc_8 (by decide) hin_8 tyWP okWP df_8 zx_16 zx_17 zx_1 (by decide) (by decide) hX dL_0 rfl (fun w' q => ?_)
  obtain rfl := Option.some.inj q
  refine zg_conv (zu_newC (by decide)) ?_
  refine zg_dup hX dL_3 rfl ?_
  refine zg_IC (sfy := 256) (mcy := 10) (v := none) (w' := w1) (a := n) (st := [va_rf (some n)]) (fun a h => absurd rfl h) rfl [] (fun l => zm_WP_init l D G _ F _ n w1 e1) rfl rfl (zt_G zx_20) zx_18 zx_1 zx_19 rfl hd_WP_init (by decide) 20 (by decide) (by decide) (by decide) (Nat.le_of_ble_eq_true rfl) rfl rfl hX dL_4 (fun hdj => ?_)
  refine zg_astore_n (K := fun y => if y = some n then some () else none) (r := ()) hX dL_7 (Nat.le_of_ble_eq_true rfl) rfl (by unfold zf_let; exact if_pos rfl) (fun y q => ?_)
  obtain rfl := zk_eqo q
  refine zg_lt (fun hB => ?_)
  have hB1 : (zw_ty w1 (zw_n w1)).1 = 0 := Classical.byContradiction fun h => by
    have := hB (zw_n w1) (by rw [zw_U1t h]; exact h)
    exact absurd this (Nat.lt_irrefl _)
  refine zg_new (ci := 9) (K := some) (r := zw_new (zw_U w1 (zw_mv (zw_mv (zw_E n) (zw_n (zw_E n) + 1)) (zw_n w1))) 10 0) hc_9 (by decide) hin_9 tyMo okMo df_9 zx_616 zx_617 zx_5 (by decide) (by decide) hX dL_8 rfl (fun w' q => ?_)
  obtain rfl := Option.some.inj q
  refine zg_conv (zu_newM hB1 rfl) ?_
  obtain ⟨w2, e2, hs⟩ := hk (zw_n w1)
  refine zg_dup hX dL_11 rfl ?_
  refine zg_IM (sfy := 4096) (mcy := 26) (v := none) (w' := w2) (a := zw_n w1) (st := [va_rf (some (zw_n w1))]) ?_ rfl [] (fun l => zm_Mo_init l D G _ F _ (zw_n w1) w2 e2) rfl rfl (zt_G zx_620) zx_618 zx_5 zx_619 rfl hd_Mo_init (by decide) 832 (by decide) (by decide) (by decide) (Nat.le_of_ble_eq_true rfl) rfl rfl hX dL_12 (fun hdj2 => ?_)
  · intro a ha
    by_cases hq : a = zw_n w1
    · rw [hq]; exact hB1
    · exact absurd (by show (zw_ty (zw_new _ 10 0) a).1 = 0; exact (congrArg Prod.fst (va_up_ne _ _ hq))) ha
  refine zg_astore_n (K := fun y => if y = some (zw_n w1) then some () else none) (r := ()) hX dL_15 (Nat.le_of_ble_eq_true rfl) rfl (by unfold zf_let; exact if_pos rfl) (fun y q => ?_)
  obtain rfl := zk_eqo q
  refine zg_iconst hX dL_16 (0 : Int32) (by decide) ?_
  refine zg_istore_n (K := fun y => if y = nI 0 then some () else none) (r := ()) hX dL_17 (Nat.le_of_ble_eq_true rfl) rfl (by unfold zf_let; exact if_pos rfl) (fun y q => ?_)
  obtain rfl := zk_eq q
  exact zo_loop hX hS hL (hmv n (zw_n w1)) (hty n (zw_n w1)) (hop n (zw_n w1)) (fun w ck i h => hend w ck n (zw_n w1) i h) 512 0 854 _ w2 (by omega) (by omega) (by omega) (hmv _ _ _ _ _ (hmv _ _ _ _ _ hs)) hdj2 rfl
