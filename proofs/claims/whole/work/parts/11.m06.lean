def zf_Mo_code (F : Nat) (w : zw_T) (a0 : Nat) (x1 : Int32) : Option (Int32 × zw_T) :=
  if x1 < 0 then (
  some ((0 : Int32), w))
  else (
  if x1 < (2097152 : Int32) then (
  zf_bd (zf_Mo_codeword F w x1) fun v15 w15 =>
  some (v15, w15))
  else (
  some ((0 : Int32), w)))
set_option maxHeartbeats 4000000 in
set_option maxRecDepth 100000 in
theorem zm_Mo_code (l : Launch) (D : va_G) (G : zw_G) (A : Nat → Prop) (F : Nat) (w : zw_T) (a0 : Nat) (x1 : Int32) (r : Int32 × zw_T) (h : zf_Mo_code F w a0 x1 = some r) : zc l yMo_code wsMo_code 1 24 128 0 D G A [.ref a0, .int x1] w (zr_i r) := by
  refine zc_of (ret := some .int) [some (va_rf (some a0)), some (.int x1)] (plainFor_of_name (by decide +kernel)) rfl (Nat.le_of_ble_eq_true rfl) rfl rfl (fun X hX hr hm => ?_)
  unfold zf_Mo_code at h
  refine zg_iload_n hX dMo_code_0 rfl ?_
  refine zg_if_lt (tgt := 10) hX dMo_code_1 rfl h (fun h => ?_) (fun h => ?_)
  · refine zg_iconst hX dMo_code_10 (0 : Int32) (by decide) ?_
    refine zg_goto (tgt := 18) hX dMo_code_11 rfl ?_
    cases h
    exact zg_iret hX hr (by decide) dMo_code_18
  · refine zg_iload_n hX dMo_code_4 rfl ?_
    refine zg_ldc hX dMo_code_5 (2097152 : Int32) zx_738 ?_
    refine zg_icmp_lt (tgt := 14) hX dMo_code_7 rfl h (fun h => ?_) (fun h => ?_)
    · refine zg_iload_n hX dMo_code_14 rfl ?_
      obtain ⟨v15, w15, q15, h⟩ := zf_bd_e h
      refine zg_callS_i (mcy := 0) (v := v15) (w1 := w15) (st := []) [.int x1] (fun l => zm_Mo_codeword l D G A F w x1 (v15, w15) q15) (zt_S zx_739 zx_740 zx_5 zx_741) rfl hd_Mo_codeword (by decide) (by decide) (by decide) (Nat.le_of_ble_eq_true rfl) rfl rfl hX dMo_code_15 ?_
      cases h
      exact zg_iret hX hr (by decide) dMo_code_18
    · refine zg_iconst hX dMo_code_10 (0 : Int32) (by decide) ?_
      refine zg_goto (tgt := 18) hX dMo_code_11 rfl ?_
      cases h
      exact zg_iret hX hr (by decide) dMo_code_18
def zf_Mo_isPager (F : Nat) (w : zw_T) (a0 : Nat) (x1 : Int32) : Option (Int32 × zw_T) :=
  if x1 < 0 then (
  zf_b (0 : Int32) (some ((0 : Int32), w)))
  else (
  zf_at w 10 (some a0) fun a6 =>
  if (zw_I w 1595 a6 0) ≤ x1 then (
  zf_b (0 : Int32) (some ((0 : Int32), w)))
  else (
  zf_b (1 : Int32) (some ((1 : Int32), w))))
set_option maxHeartbeats 4000000 in
set_option maxRecDepth 100000 in
theorem zm_Mo_isPager (l : Launch) (D : va_G) (G : zw_G) (A : Nat → Prop) (F : Nat) (w : zw_T) (a0 : Nat) (x1 : Int32) (r : Int32 × zw_T) (h : zf_Mo_isPager F w a0 x1 = some r) : zc l yMo_isPager wsMo_isPager 0 0 128 0 D G A [.ref a0, .int x1] w (zr_i r) := by
  refine zc_of (ret := some .boolean) [some (va_rf (some a0)), some (.int x1)] (plainFor_of_name (by decide +kernel)) rfl (Nat.le_of_ble_eq_true rfl) rfl rfl (fun X hX hr hm => ?_)
  unfold zf_Mo_isPager at h
  refine zg_iload_n hX dMo_isPager_0 rfl ?_
  refine zg_if_lt (tgt := 16) hX dMo_isPager_1 rfl h (fun h => ?_) (fun h => ?_)
  · refine zg_iconst hX dMo_isPager_16 (0 : Int32) (by decide) ?_
    obtain ⟨hb17, h⟩ := zf_b_e h
    cases h
    exact zg_zret hX hr (zf_b_n hb17).1 (by decide) dMo_isPager_17
  · refine zg_iload_n hX dMo_isPager_4 rfl ?_
    refine zg_aload_n (x := (some a0)) hX dMo_isPager_5 rfl ?_
    refine zg_getI (ci := 9) (k := 19) hc_9 (by decide) (by decide) hin_9 zx_639 ft_9_19 hX dMo_isPager_6 h (fun a6 h => ?_)
    refine zg_icmp_ge (tgt := 16) hX dMo_isPager_9 rfl h (fun h => ?_) (fun h => ?_)
    · refine zg_iconst hX dMo_isPager_16 (0 : Int32) (by decide) ?_
      obtain ⟨hb17, h⟩ := zf_b_e h
      cases h
      exact zg_zret hX hr (zf_b_n hb17).1 (by decide) dMo_isPager_17
    · refine zg_iconst hX dMo_isPager_12 (1 : Int32) (by decide) ?_
      refine zg_goto (tgt := 17) hX dMo_isPager_13 rfl ?_
      obtain ⟨hb17, h⟩ := zf_b_e h
      cases h
      exact zg_zret hX hr (zf_b_n hb17).1 (by decide) dMo_isPager_17
def zf_Mo_count (F : Nat) (w : zw_T) (a0 : Nat) (x1 : Int32) (x2 : Int32) : Option (Int32 × zw_T) :=
  zf_at w 10 (some a0) fun a2 =>
  zf_bd (zf_Mo_isPager F w a2 x1) fun v2 w2 =>
  if v2 = 0 then (
  some ((-1 : Int32), w2))
  else (
  if x2 < 0 then (
  some ((-1 : Int32), w2))
  else (
  if (3 : Int32) < x2 then (
  some ((-1 : Int32), w2))
  else (
  zf_at w2 10 (some a0) fun a18 =>
  zf_ix w2 139 (zw_R w2 1606 a18 0) (((4 : Int32) * x1) + x2) fun a26 j26 =>
  some ((zw_I w2 139 a26 j26), w2))))
set_option maxHeartbeats 4000000 in
set_option maxRecDepth 100000 in
theorem zm_Mo_count (l : Launch) (D : va_G) (G : zw_G) (A : Nat → Prop) (F : Nat) (w : zw_T) (a0 : Nat) (x1 : Int32) (x2 : Int32) (r : Int32 × zw_T) (h : zf_Mo_count F w a0 x1 x2 = some r) : zc l yMo_count wsMo_count 1 21 128 0 D G A [.ref a0, .int x1, .int x2] w (zr_i r) := by
  refine zc_of (ret := some .int) [some (va_rf (some a0)), some (.int x1), some (.int x2)] (plainFor_of_name (by decide +kernel)) rfl (Nat.le_of_ble_eq_true rfl) rfl rfl (fun X hX hr hm => ?_)
  unfold zf_Mo_count at h
  refine zg_aload_n (x := (some a0)) hX dMo_count_0 rfl ?_
  refine zg_iload_n hX dMo_count_1 rfl ?_
  obtain ⟨a2, e2, t2, h⟩ := zf_at_e h
  obtain ⟨v2, w2, q2, h⟩ := zf_bd_e h
  refine zg_callV_i (mcy := 0) (v := v2) (w1 := w2) (st := []) hc_9 (by decide) e2 t2 [.int x1] (fun l => zm_Mo_isPager l D G A F w a2 x1 (v2, w2) q2) (zt_V zx_762 zx_764 zs_17 zx_5 zx_765) rfl hd_Mo_isPager (by decide) (by decide) (by decide) (Nat.le_of_ble_eq_true rfl) rfl rfl hX dMo_count_2 ?_
  refine zg_if_eq (tgt := 30) hX dMo_count_5 rfl h (fun h => ?_) (fun h => ?_)
  · refine zg_iconst hX dMo_count_30 (-1 : Int32) (by decide) ?_
    cases h
    exact zg_iret hX hr (by decide) dMo_count_31
  · refine zg_iload_n hX dMo_count_8 rfl ?_
    refine zg_if_lt (tgt := 30) hX dMo_count_9 rfl h (fun h => ?_) (fun h => ?_)
    · refine zg_iconst hX dMo_count_30 (-1 : Int32) (by decide) ?_
      cases h
      exact zg_iret hX hr (by decide) dMo_count_31
    · refine zg_iload_n hX dMo_count_12 rfl ?_
      refine zg_iconst hX dMo_count_13 (3 : Int32) (by decide) ?_
      refine zg_icmp_gt (tgt := 30) hX dMo_count_14 rfl h (fun h => ?_) (fun h => ?_)
      · refine zg_iconst hX dMo_count_30 (-1 : Int32) (by decide) ?_
        cases h
        exact zg_iret hX hr (by decide) dMo_count_31
      · refine zg_aload_n (x := (some a0)) hX dMo_count_17 rfl ?_
        refine zg_getR (ci := 9) (k := 30) hc_9 (by decide) (by decide) hin_9 zx_650 ft_9_30 hX dMo_count_18 h (fun a18 h => ?_)
        refine zg_iconst hX dMo_count_21 (4 : Int32) (by decide) ?_
        refine zg_iload_n hX dMo_count_22 rfl ?_
        refine zg_imul hX dMo_count_23 ?_
        refine zg_iload_n hX dMo_count_24 rfl ?_
        refine zg_iadd hX dMo_count_25 ?_
        refine zg_iald (kd := 139) (by decide) (by decide) hX dMo_count_26 h (fun a26 j26 h => ?_)
        refine zg_goto (tgt := 31) hX dMo_count_27 rfl ?_
        cases h
        exact zg_iret hX hr (by decide) dMo_count_31
def zf_Mo_desk_j44 (F : Nat) (k6 : zw_T → Nat → Int32 → Int32 → Int32 → Int32 → Int32 → Option (Int32 × zw_T)) (w : zw_T) (a0 : Nat) (x1 : Int32) (x2 : Int32) (x3 : Int32) (x5 : Int32) (s0 : Int32) : Option (Int32 × zw_T) :=
  zf_let s0 fun y44 =>
  zf_let (x5 + (1 : Int32)) fun y46 =>
  k6 w a0 x1 x2 x3 y44 y46
def zf_Mo_desk_j42 (F : Nat) (k6 : zw_T → Nat → Int32 → Int32 → Int32 → Int32 → Int32 → Option (Int32 × zw_T)) (w : zw_T) (a0 : Nat) (x1 : Int32) (x2 : Int32) (x3 : Int32) (x4 : Int32) (x5 : Int32) : Option (Int32 × zw_T) :=
  zf_Mo_desk_j44 F k6 w a0 x1 x2 x3 x5 x4
def zf_Mo_desk_L6 (F : Nat) : Nat → zw_T → Nat → Int32 → Int32 → Int32 → Int32 → Int32 → Option (Int32 × zw_T)
  | 0, _, _, _, _, _, _, _ => none
  | n + 1, w, a0, x1, x2, x3, x4, x5 =>
  zf_at w 10 (some a0) fun a9 =>
  if (zw_I w 1580 a9 0) ≤ x5 then (
  if x4 < 0 then (
  some ((-1 : Int32), w))
  else (
  if x3 < 0 then (
  some ((-1 : Int32), w))
  else (
  zf_at w 10 (some a0) fun a63 =>
  zf_ix w 126 (zw_R w 1584 a63 0) x4 fun a68 j68 =>
  if x3 < (zw_I w 126 a68 j68) then (
  zf_at w 10 (some a0) fun a77 =>
  zf_ix w 127 (zw_R w 1585 a77 0) (((20 : Int32) * x4) + x3) fun a87 j87 =>
  some ((zw_I w 127 a87 j87), w))
  else (
  some ((-1 : Int32), w)))))
  else (
  zf_at w 10 (some a0) fun a16 =>
  zf_ix w 123 (zw_R w 1581 a16 0) x5 fun a21 j21 =>
  if (zw_I w 123 a21 j21) = x1 then (
  zf_at w 10 (some a0) fun a27 =>
  zf_ix w 125 (zw_R w 1583 a27 0) x5 fun a32 j32 =>
  if (zw_I w 125 a32 j32) = x2 then (
  zf_Mo_desk_j44 F (zf_Mo_desk_L6 F n) w a0 x1 x2 x3 x5 x5)
  else (
  zf_Mo_desk_j42 F (zf_Mo_desk_L6 F n) w a0 x1 x2 x3 x4 x5))
  else (
  zf_Mo_desk_j42 F (zf_Mo_desk_L6 F n) w a0 x1 x2 x3 x4 x5))
def zf_Mo_desk (F : Nat) (w : zw_T) (a0 : Nat) (x1 : Int32) (x2 : Int32) (x3 : Int32) : Option (Int32 × zw_T) :=
  zf_let (-1 : Int32) fun y1 =>
  zf_let (0 : Int32) fun y4 =>
  zf_Mo_desk_L6 F F w a0 x1 x2 x3 y1 y4
set_option maxHeartbeats 4000000 in
set_option maxRecDepth 100000 in
theorem zm_Mo_desk_j44 {X : zg_X} {D : va_G} {G : zw_G} {A : Nat → Prop} {F : Nat} {k6 : zw_T → Nat → Int32 → Int32 → Int32 → Int32 → Int32 → Option (Int32 × zw_T)} {r : Int32 × zw_T} (hX : zg_ok X cMo_desk RMo 6 0 0 128 0 D G A) (hr : zg_rt X = some .int) (hm : zg_nm X = yMo_desk.name) (hk6 : ∀ (w : zw_T) (a0 : Nat) (x1 : Int32) (x2 : Int32) (x3 : Int32) (x4 : Int32) (x5 : Int32), k6 w a0 x1 x2 x3 x4 x5 = some r → zg X D G A (zg_Q X D G A 128 0 (zr_i r)) 128 0 w 6 [some (va_rf (some a0)), some (.int x1), some (.int x2), some (.int x3), some (.int x4), some (.int x5)] []) (w : zw_T) (a0 : Nat) (x1 : Int32) (x2 : Int32) (x3 : Int32) (x5 : Int32) (s0 : Int32) (h : zf_Mo_desk_j44 F k6 w a0 x1 x2 x3 x5 s0 = some r) : zg X D G A (zg_Q X D G A 128 0 (zr_i r)) 128 0 w 44 [some (va_rf (some a0)), some (.int x1), some (.int x2), some (.int x3), none, some (.int x5)] [.int s0] := by
  unfold zf_Mo_desk_j44 at h
  refine zg_istore hX dMo_desk_44 (Nat.le_of_ble_eq_true rfl) rfl h (fun y44 h => ?_)
  refine zg_iinc hX dMo_desk_46 (1 : Int32) rfl (by decide) (Nat.le_of_ble_eq_true rfl) rfl h (fun y46 h => ?_)
  refine zg_goto (tgt := 6) hX dMo_desk_49 rfl ?_
  exact zg_sub (zl_k (zl_k (zl_k (zl_k (zl_k (zl_k zl_n)))))) (hk6 w a0 x1 x2 x3 y44 y46 h)
set_option maxHeartbeats 4000000 in
set_option maxRecDepth 100000 in
theorem zm_Mo_desk_j42 {X : zg_X} {D : va_G} {G : zw_G} {A : Nat → Prop} {F : Nat} {k6 : zw_T → Nat → Int32 → Int32 → Int32 → Int32 → Int32 → Option (Int32 × zw_T)} {r : Int32 × zw_T} (hX : zg_ok X cMo_desk RMo 6 0 0 128 0 D G A) (hr : zg_rt X = some .int) (hm : zg_nm X = yMo_desk.name) (hk6 : ∀ (w : zw_T) (a0 : Nat) (x1 : Int32) (x2 : Int32) (x3 : Int32) (x4 : Int32) (x5 : Int32), k6 w a0 x1 x2 x3 x4 x5 = some r → zg X D G A (zg_Q X D G A 128 0 (zr_i r)) 128 0 w 6 [some (va_rf (some a0)), some (.int x1), some (.int x2), some (.int x3), some (.int x4), some (.int x5)] []) (w : zw_T) (a0 : Nat) (x1 : Int32) (x2 : Int32) (x3 : Int32) (x4 : Int32) (x5 : Int32) (h : zf_Mo_desk_j42 F k6 w a0 x1 x2 x3 x4 x5 = some r) : zg X D G A (zg_Q X D G A 128 0 (zr_i r)) 128 0 w 42 [some (va_rf (some a0)), some (.int x1), some (.int x2), some (.int x3), some (.int x4), some (.int x5)] [] := by
  unfold zf_Mo_desk_j42 at h
  refine zg_iload hX dMo_desk_42 rfl ?_
  exact zg_sub (zl_k (zl_k (zl_k (zl_k (zl_d (zl_k zl_n)))))) (zm_Mo_desk_j44 hX hr hm hk6 w a0 x1 x2 x3 x5 x4 h)
set_option maxHeartbeats 4000000 in
set_option maxRecDepth 100000 in
theorem zm_Mo_desk_L6 {X : zg_X} {D : va_G} {G : zw_G} {A : Nat → Prop} {F : Nat} {r : Int32 × zw_T} (hX : zg_ok X cMo_desk RMo 6 0 0 128 0 D G A) (hr : zg_rt X = some .int) (hm : zg_nm X = yMo_desk.name) : ∀ (n : Nat) (w : zw_T) (a0 : Nat) (x1 : Int32) (x2 : Int32) (x3 : Int32) (x4 : Int32) (x5 : Int32), zf_Mo_desk_L6 F n w a0 x1 x2 x3 x4 x5 = some r → zg X D G A (zg_Q X D G A 128 0 (zr_i r)) 128 0 w 6 [some (va_rf (some a0)), some (.int x1), some (.int x2), some (.int x3), some (.int x4), some (.int x5)] [] := by
  intro n
  induction n with
  | zero =>
    intro w a0 x1 x2 x3 x4 x5 h
    unfold zf_Mo_desk_L6 at h
    cases h
  | succ n ih =>
    intro w a0 x1 x2 x3 x4 x5 h
    rw [zf_Mo_desk_L6] at h
    refine zg_iload hX dMo_desk_6 rfl ?_
    refine zg_aload_n (x := (some a0)) hX dMo_desk_8 rfl ?_
    refine zg_getI (ci := 9) (k := 4) hc_9 (by decide) (by decide) hin_9 zx_626 ft_9_4 hX dMo_desk_9 h (fun a9 h => ?_)
    refine zg_icmp_ge (tgt := 52) hX dMo_desk_12 rfl h (fun h => ?_) (fun h => ?_)
    · refine zg_iload hX dMo_desk_52 rfl ?_
      refine zg_if_lt (tgt := 72) hX dMo_desk_54 rfl h (fun h => ?_) (fun h => ?_)
      · refine zg_iconst hX dMo_desk_72 (-1 : Int32) (by decide) ?_
        refine zg_goto (tgt := 88) hX dMo_desk_73 rfl ?_
        cases h
        exact zg_iret hX hr (by decide) dMo_desk_88
      · refine zg_iload_n hX dMo_desk_57 rfl ?_
        refine zg_if_lt (tgt := 72) hX dMo_desk_58 rfl h (fun h => ?_) (fun h => ?_)
        · refine zg_iconst hX dMo_desk_72 (-1 : Int32) (by decide) ?_
          refine zg_goto (tgt := 88) hX dMo_desk_73 rfl ?_
          cases h
          exact zg_iret hX hr (by decide) dMo_desk_88
        · refine zg_iload_n hX dMo_desk_61 rfl ?_
          refine zg_aload_n (x := (some a0)) hX dMo_desk_62 rfl ?_
          refine zg_getR (ci := 9) (k := 8) hc_9 (by decide) (by decide) hin_9 zx_630 ft_9_8 hX dMo_desk_63 h (fun a63 h => ?_)
          refine zg_iload hX dMo_desk_66 rfl ?_
          refine zg_iald (kd := 126) (by decide) (by decide) hX dMo_desk_68 h (fun a68 j68 h => ?_)
          refine zg_icmp_lt (tgt := 76) hX dMo_desk_69 rfl h (fun h => ?_) (fun h => ?_)
          · refine zg_aload_n (x := (some a0)) hX dMo_desk_76 rfl ?_
            refine zg_getR (ci := 9) (k := 9) hc_9 (by decide) (by decide) hin_9 zx_631 ft_9_9 hX dMo_desk_77 h (fun a77 h => ?_)
            refine zg_bipush hX dMo_desk_80 (20 : Int32) (by decide) ?_
            refine zg_iload hX dMo_desk_82 rfl ?_
            refine zg_imul hX dMo_desk_84 ?_
            refine zg_iload_n hX dMo_desk_85 rfl ?_
            refine zg_iadd hX dMo_desk_86 ?_
            refine zg_iald (kd := 127) (by decide) (by decide) hX dMo_desk_87 h (fun a87 j87 h => ?_)
            cases h
            exact zg_iret hX hr (by decide) dMo_desk_88
          · refine zg_iconst hX dMo_desk_72 (-1 : Int32) (by decide) ?_
            refine zg_goto (tgt := 88) hX dMo_desk_73 rfl ?_
            cases h
            exact zg_iret hX hr (by decide) dMo_desk_88
    · refine zg_aload_n (x := (some a0)) hX dMo_desk_15 rfl ?_
      refine zg_getR (ci := 9) (k := 5) hc_9 (by decide) (by decide) hin_9 zx_627 ft_9_5 hX dMo_desk_16 h (fun a16 h => ?_)
      refine zg_iload hX dMo_desk_19 rfl ?_
      refine zg_iald (kd := 123) (by decide) (by decide) hX dMo_desk_21 h (fun a21 j21 h => ?_)
      refine zg_iload_n hX dMo_desk_22 rfl ?_
      refine zg_icmp_ne (tgt := 42) hX dMo_desk_23 rfl h (fun h => ?_) (fun h => ?_)
      · refine zg_aload_n (x := (some a0)) hX dMo_desk_26 rfl ?_
        refine zg_getR (ci := 9) (k := 7) hc_9 (by decide) (by decide) hin_9 zx_629 ft_9_7 hX dMo_desk_27 h (fun a27 h => ?_)
        refine zg_iload hX dMo_desk_30 rfl ?_
        refine zg_iald (kd := 125) (by decide) (by decide) hX dMo_desk_32 h (fun a32 j32 h => ?_)
        refine zg_iload_n hX dMo_desk_33 rfl ?_
        refine zg_icmp_ne (tgt := 42) hX dMo_desk_34 rfl h (fun h => ?_) (fun h => ?_)
        · refine zg_iload hX dMo_desk_37 rfl ?_
          refine zg_goto (tgt := 44) hX dMo_desk_39 rfl ?_
          exact zg_sub (zl_k (zl_k (zl_k (zl_k (zl_d (zl_k zl_n)))))) (zm_Mo_desk_j44 hX hr hm ih w a0 x1 x2 x3 x5 x5 h)
        · exact zg_sub (zl_k (zl_k (zl_k (zl_k (zl_k (zl_k zl_n)))))) (zm_Mo_desk_j42 hX hr hm ih w a0 x1 x2 x3 x4 x5 h)
      · exact zg_sub (zl_k (zl_k (zl_k (zl_k (zl_k (zl_k zl_n)))))) (zm_Mo_desk_j42 hX hr hm ih w a0 x1 x2 x3 x4 x5 h)
set_option maxHeartbeats 4000000 in
set_option maxRecDepth 100000 in
theorem zm_Mo_desk (l : Launch) (D : va_G) (G : zw_G) (A : Nat → Prop) (F : Nat) (w : zw_T) (a0 : Nat) (x1 : Int32) (x2 : Int32) (x3 : Int32) (r : Int32 × zw_T) (h : zf_Mo_desk F w a0 x1 x2 x3 = some r) : zc l yMo_desk wsMo_desk 0 0 128 0 D G A [.ref a0, .int x1, .int x2, .int x3] w (zr_i r) := by
  refine zc_of (ret := some .int) [some (va_rf (some a0)), some (.int x1), some (.int x2), some (.int x3), none, none] (plainFor_of_name (by decide +kernel)) rfl (Nat.le_of_ble_eq_true rfl) rfl rfl (fun X hX hr hm => ?_)
  unfold zf_Mo_desk at h
  refine zg_iconst hX dMo_desk_0 (-1 : Int32) (by decide) ?_
  refine zg_istore hX dMo_desk_1 (Nat.le_of_ble_eq_true rfl) rfl h (fun y1 h => ?_)
  refine zg_iconst hX dMo_desk_3 (0 : Int32) (by decide) ?_
  refine zg_istore hX dMo_desk_4 (Nat.le_of_ble_eq_true rfl) rfl h (fun y4 h => ?_)
  exact zg_sub (zl_k (zl_k (zl_k (zl_k (zl_k (zl_k zl_n)))))) (zm_Mo_desk_L6 hX hr hm F w a0 x1 x2 x3 y1 y4 h)
def zf_Mo_wordsOf_j38 (F : Nat) (w : zw_T) (s0 : Int32) : Option (Int32 × zw_T) :=
  zf_let s0 fun y38 =>
  some (((1 : Int32) + ((y38 + (19 : Int32)) / (20 : Int32))), w)
def zf_Mo_wordsOf (F : Nat) (w : zw_T) (a0 : Nat) (x1 : Int32) : Option (Int32 × zw_T) :=
  zf_at w 10 (some a0) fun a1 =>
  zf_at w 10 (some a0) fun a5 =>
  zf_ix w 123 (zw_R w 1581 a5 0) x1 fun a9 j9 =>
  zf_ix w 121 (zw_R w 1578 a1 0) (zw_I w 123 a9 j9) fun a10 j10 =>
  if (zw_I w 121 a10 j10) = 0 then (
  zf_at w 10 (some a0) fun a16 =>
  zf_ix w 126 (zw_R w 1584 a16 0) x1 fun a20 j20 =>
  zf_Mo_wordsOf_j38 F w ((4 : Int32) * ((zw_I w 126 a20 j20) + (2 : Int32))))
  else (
  zf_at w 10 (some a0) fun a30 =>
  zf_ix w 126 (zw_R w 1584 a30 0) x1 fun a34 j34 =>
  zf_Mo_wordsOf_j38 F w ((7 : Int32) * ((zw_I w 126 a34 j34) + (1 : Int32))))
set_option maxHeartbeats 4000000 in
set_option maxRecDepth 100000 in
theorem zm_Mo_wordsOf_j38 {X : zg_X} {D : va_G} {G : zw_G} {A : Nat → Prop} {F : Nat} {r : Int32 × zw_T} (hX : zg_ok X cMo_wordsOf RMo 3 0 0 128 0 D G A) (hr : zg_rt X = some .int) (hm : zg_nm X = yMo_wordsOf.name) (w : zw_T) (s0 : Int32) (h : zf_Mo_wordsOf_j38 F w s0 = some r) : zg X D G A (zg_Q X D G A 128 0 (zr_i r)) 128 0 w 38 [none, none, none] [.int s0] := by
  unfold zf_Mo_wordsOf_j38 at h
  refine zg_istore_n hX dMo_wordsOf_38 (Nat.le_of_ble_eq_true rfl) rfl h (fun y38 h => ?_)
  refine zg_iconst hX dMo_wordsOf_39 (1 : Int32) (by decide) ?_
  refine zg_iload_n hX dMo_wordsOf_40 rfl ?_
  refine zg_bipush hX dMo_wordsOf_41 (19 : Int32) (by decide) ?_
  refine zg_iadd hX dMo_wordsOf_43 ?_
  refine zg_bipush hX dMo_wordsOf_44 (20 : Int32) (by decide) ?_
  refine zg_idiv hX dMo_wordsOf_46 (by decide) ?_
  refine zg_iadd hX dMo_wordsOf_47 ?_
  cases h
  exact zg_iret hX hr (by decide) dMo_wordsOf_48
set_option maxHeartbeats 4000000 in
set_option maxRecDepth 100000 in
theorem zm_Mo_wordsOf (l : Launch) (D : va_G) (G : zw_G) (A : Nat → Prop) (F : Nat) (w : zw_T) (a0 : Nat) (x1 : Int32) (r : Int32 × zw_T) (h : zf_Mo_wordsOf F w a0 x1 = some r) : zc l yMo_wordsOf wsMo_wordsOf 0 0 128 0 D G A [.ref a0, .int x1] w (zr_i r) := by
  refine zc_of (ret := some .int) [some (va_rf (some a0)), some (.int x1), none] (plainFor_of_name (by decide +kernel)) rfl (Nat.le_of_ble_eq_true rfl) rfl rfl (fun X hX hr hm => ?_)
  unfold zf_Mo_wordsOf at h
  refine zg_aload_n (x := (some a0)) hX dMo_wordsOf_0 rfl ?_
  refine zg_getR (ci := 9) (k := 2) hc_9 (by decide) (by decide) hin_9 zx_624 ft_9_2 hX dMo_wordsOf_1 h (fun a1 h => ?_)
  refine zg_aload_n (x := (some a0)) hX dMo_wordsOf_4 rfl ?_
  refine zg_getR (ci := 9) (k := 5) hc_9 (by decide) (by decide) hin_9 zx_627 ft_9_5 hX dMo_wordsOf_5 h (fun a5 h => ?_)
  refine zg_iload_n hX dMo_wordsOf_8 rfl ?_
  refine zg_iald (kd := 123) (by decide) (by decide) hX dMo_wordsOf_9 h (fun a9 j9 h => ?_)
  refine zg_iald (kd := 121) (by decide) (by decide) hX dMo_wordsOf_10 h (fun a10 j10 h => ?_)
  refine zg_if_ne (tgt := 27) hX dMo_wordsOf_11 rfl h (fun h => ?_) (fun h => ?_)
  · refine zg_iconst hX dMo_wordsOf_14 (4 : Int32) (by decide) ?_
    refine zg_aload_n (x := (some a0)) hX dMo_wordsOf_15 rfl ?_
    refine zg_getR (ci := 9) (k := 8) hc_9 (by decide) (by decide) hin_9 zx_630 ft_9_8 hX dMo_wordsOf_16 h (fun a16 h => ?_)
    refine zg_iload_n hX dMo_wordsOf_19 rfl ?_
    refine zg_iald (kd := 126) (by decide) (by decide) hX dMo_wordsOf_20 h (fun a20 j20 h => ?_)
    refine zg_iconst hX dMo_wordsOf_21 (2 : Int32) (by decide) ?_
    refine zg_iadd hX dMo_wordsOf_22 ?_
    refine zg_imul hX dMo_wordsOf_23 ?_
    refine zg_goto (tgt := 38) hX dMo_wordsOf_24 rfl ?_
    exact zg_sub (zl_d (zl_d (zl_d zl_n))) (zm_Mo_wordsOf_j38 hX hr hm w ((4 : Int32) * ((zw_I w 126 a20 j20) + (2 : Int32))) h)
  · refine zg_bipush hX dMo_wordsOf_27 (7 : Int32) (by decide) ?_
    refine zg_aload_n (x := (some a0)) hX dMo_wordsOf_29 rfl ?_
    refine zg_getR (ci := 9) (k := 8) hc_9 (by decide) (by decide) hin_9 zx_630 ft_9_8 hX dMo_wordsOf_30 h (fun a30 h => ?_)
    refine zg_iload_n hX dMo_wordsOf_33 rfl ?_
    refine zg_iald (kd := 126) (by decide) (by decide) hX dMo_wordsOf_34 h (fun a34 j34 h => ?_)
    refine zg_iconst hX dMo_wordsOf_35 (1 : Int32) (by decide) ?_
    refine zg_iadd hX dMo_wordsOf_36 ?_
    refine zg_imul hX dMo_wordsOf_37 ?_
    exact zg_sub (zl_d (zl_d (zl_d zl_n))) (zm_Mo_wordsOf_j38 hX hr hm w ((7 : Int32) * ((zw_I w 126 a34 j34) + (1 : Int32))) h)
def zf_Mo_fits_j84 (F : Nat) (w : zw_T) (x4 : Int32) : Option (Int32 × zw_T) :=
  zf_b x4 (some (x4, w))
def zf_Mo_fits_j76 (F : Nat) (k44 : zw_T → Nat → Int32 → Int32 → Int32 → Int32 → Option (Int32 × zw_T)) (w : zw_T) (a0 : Nat) (x1 : Int32) (x2 : Int32) (x5 : Int32) (s0 : Int32) : Option (Int32 × zw_T) :=
  zf_let s0 fun y76 =>
  zf_let (x5 + (1 : Int32)) fun y78 =>
  k44 w a0 x1 x2 y76 y78
def zf_Mo_fits_L44 (F : Nat) : Nat → zw_T → Nat → Int32 → Int32 → Int32 → Int32 → Option (Int32 × zw_T)
  | 0, _, _, _, _, _, _ => none
  | n + 1, w, a0, x1, x2, x4, x5 =>
  zf_at w 10 (some a0) fun a49 =>
  zf_bd (zf_Mo_wordsOf F w a49 x1) fun v49 w49 =>
  if (x2 + v49) ≤ x5 then (
  zf_Mo_fits_j84 F w49 x4)
  else (
  if x4 = 0 then (
  zf_Mo_fits_j84 F w49 x4)
  else (
  zf_at w49 10 (some a0) fun a62 =>
  zf_ix w49 201 (zw_R w49 1590 a62 0) x5 fun a67 j67 =>
  if (zw_I w49 201 a67 j67) = 0 then (
  zf_Mo_fits_j76 F (zf_Mo_fits_L44 F n) w49 a0 x1 x2 x5 (1 : Int32))
  else (
  zf_Mo_fits_j76 F (zf_Mo_fits_L44 F n) w49 a0 x1 x2 x5 (0 : Int32))))
def zf_Mo_fits_j39 (F : Nat) (w : zw_T) (a0 : Nat) (x1 : Int32) (x2 : Int32) (s0 : Int32) : Option (Int32 × zw_T) :=
  zf_let s0 fun y39 =>
  zf_let x2 fun y42 =>
  zf_Mo_fits_L44 F F w a0 x1 x2 y39 y42
def zf_Mo_fits_j38 (F : Nat) (w : zw_T) (a0 : Nat) (x1 : Int32) (x2 : Int32) : Option (Int32 × zw_T) :=
  zf_Mo_fits_j39 F w a0 x1 x2 (0 : Int32)
def zf_Mo_fits (F : Nat) (w : zw_T) (a0 : Nat) (x1 : Int32) (x2 : Int32) (x3 : Int32) : Option (Int32 × zw_T) :=
  zf_at w 10 (some a0) fun a7 =>
  zf_at w 10 (some a0) fun a11 =>
  zf_ix w 123 (zw_R w 1581 a11 0) x1 fun a15 j15 =>
  zf_ix w 120 (zw_R w 1577 a7 0) (zw_I w 123 a15 j15) fun a16 j16 =>
  if ((zi_rem x2 (16 : Int32)) / (2 : Int32)) = (zi_rem (zw_I w 120 a16 j16) (8 : Int32)) then (
  zf_at w 10 (some a0) fun a26 =>
  zf_bd (zf_Mo_wordsOf F w a26 x1) fun v26 w26 =>
  if x3 < (x2 + v26) then (
  zf_Mo_fits_j38 F w26 a0 x1 x2)
  else (
  zf_Mo_fits_j39 F w26 a0 x1 x2 (1 : Int32)))
  else (
  zf_Mo_fits_j38 F w a0 x1 x2)
set_option maxHeartbeats 4000000 in
set_option maxRecDepth 100000 in
theorem zm_Mo_fits_j84 {X : zg_X} {D : va_G} {G : zw_G} {A : Nat → Prop} {F : Nat} {r : Int32 × zw_T} (hX : zg_ok X cMo_fits RMo 6 1 22 128 0 D G A) (hr : zg_rt X = some .boolean) (hm : zg_nm X = yMo_fits.name) (w : zw_T) (x4 : Int32) (h : zf_Mo_fits_j84 F w x4 = some r) : zg X D G A (zg_Q X D G A 128 0 (zr_i r)) 128 0 w 84 [none, none, none, none, some (.int x4), none] [] := by
  unfold zf_Mo_fits_j84 at h
  refine zg_iload hX dMo_fits_84 rfl ?_
  obtain ⟨hb86, h⟩ := zf_b_e h
  cases h
  exact zg_zret hX hr (zf_b_n hb86).1 (by decide) dMo_fits_86
set_option maxHeartbeats 4000000 in
set_option maxRecDepth 100000 in
theorem zm_Mo_fits_j76 {X : zg_X} {D : va_G} {G : zw_G} {A : Nat → Prop} {F : Nat} {k44 : zw_T → Nat → Int32 → Int32 → Int32 → Int32 → Option (Int32 × zw_T)} {r : Int32 × zw_T} (hX : zg_ok X cMo_fits RMo 6 1 22 128 0 D G A) (hr : zg_rt X = some .boolean) (hm : zg_nm X = yMo_fits.name) (hk44 : ∀ (w : zw_T) (a0 : Nat) (x1 : Int32) (x2 : Int32) (x4 : Int32) (x5 : Int32), k44 w a0 x1 x2 x4 x5 = some r → zg X D G A (zg_Q X D G A 128 0 (zr_i r)) 128 0 w 44 [some (va_rf (some a0)), some (.int x1), some (.int x2), none, some (.int x4), some (.int x5)] []) (w : zw_T) (a0 : Nat) (x1 : Int32) (x2 : Int32) (x5 : Int32) (s0 : Int32) (h : zf_Mo_fits_j76 F k44 w a0 x1 x2 x5 s0 = some r) : zg X D G A (zg_Q X D G A 128 0 (zr_i r)) 128 0 w 76 [some (va_rf (some a0)), some (.int x1), some (.int x2), none, none, some (.int x5)] [.int s0] := by
  unfold zf_Mo_fits_j76 at h
  refine zg_istore hX dMo_fits_76 (Nat.le_of_ble_eq_true rfl) rfl h (fun y76 h => ?_)
  refine zg_iinc hX dMo_fits_78 (1 : Int32) rfl (by decide) (Nat.le_of_ble_eq_true rfl) rfl h (fun y78 h => ?_)
  refine zg_goto (tgt := 44) hX dMo_fits_81 rfl ?_
  exact zg_sub (zl_k (zl_k (zl_k (zl_d (zl_k (zl_k zl_n)))))) (hk44 w a0 x1 x2 y76 y78 h)
set_option maxHeartbeats 4000000 in
set_option maxRecDepth 100000 in
theorem zm_Mo_fits_L44 {X : zg_X} {D : va_G} {G : zw_G} {A : Nat → Prop} {F : Nat} {r : Int32 × zw_T} (hX : zg_ok X cMo_fits RMo 6 1 22 128 0 D G A) (hr : zg_rt X = some .boolean) (hm : zg_nm X = yMo_fits.name) : ∀ (n : Nat) (w : zw_T) (a0 : Nat) (x1 : Int32) (x2 : Int32) (x4 : Int32) (x5 : Int32), zf_Mo_fits_L44 F n w a0 x1 x2 x4 x5 = some r → zg X D G A (zg_Q X D G A 128 0 (zr_i r)) 128 0 w 44 [some (va_rf (some a0)), some (.int x1), some (.int x2), none, some (.int x4), some (.int x5)] [] := by
  intro n
  induction n with
  | zero =>
    intro w a0 x1 x2 x4 x5 h
    unfold zf_Mo_fits_L44 at h
    cases h
  | succ n ih =>
    intro w a0 x1 x2 x4 x5 h
    rw [zf_Mo_fits_L44] at h
    refine zg_iload hX dMo_fits_44 rfl ?_
    refine zg_iload_n hX dMo_fits_46 rfl ?_
    refine zg_aload_n (x := (some a0)) hX dMo_fits_47 rfl ?_
    refine zg_iload_n hX dMo_fits_48 rfl ?_
    obtain ⟨a49, e49, t49, h⟩ := zf_at_e h
    obtain ⟨v49, w49, q49, h⟩ := zf_bd_e h
    refine zg_callV_i (mcy := 0) (v := v49) (w1 := w49) (st := [.int x2, .int x5]) hc_9 (by decide) e49 t49 [.int x1] (fun l => zm_Mo_wordsOf l D G A F w a49 x1 (v49, w49) q49) (zt_V zx_806 zx_808 zs_22 zx_5 zx_809) rfl hd_Mo_wordsOf (by decide) (by decide) (by decide) (Nat.le_of_ble_eq_true rfl) rfl rfl hX dMo_fits_49 ?_
    refine zg_iadd hX dMo_fits_52 ?_
    refine zg_icmp_ge (tgt := 84) hX dMo_fits_53 rfl h (fun h => ?_) (fun h => ?_)
    · exact zg_sub (zl_d (zl_d (zl_d (zl_d (zl_k (zl_d zl_n)))))) (zm_Mo_fits_j84 hX hr hm w49 x4 h)
    · refine zg_iload hX dMo_fits_56 rfl ?_
      refine zg_if_eq (tgt := 84) hX dMo_fits_58 rfl h (fun h => ?_) (fun h => ?_)
      · exact zg_sub (zl_d (zl_d (zl_d (zl_d (zl_k (zl_d zl_n)))))) (zm_Mo_fits_j84 hX hr hm w49 x4 h)
      · refine zg_aload_n (x := (some a0)) hX dMo_fits_61 rfl ?_
        refine zg_getR (ci := 9) (k := 14) hc_9 (by decide) (by decide) hin_9 zx_636 ft_9_14 hX dMo_fits_62 h (fun a62 h => ?_)
        refine zg_iload hX dMo_fits_65 rfl ?_
        refine zg_zald (kd := 201) (by decide) (by decide) hX dMo_fits_67 h (fun a67 j67 h => ?_)
        refine zg_if_ne (tgt := 75) hX dMo_fits_68 rfl h (fun h => ?_) (fun h => ?_)
        · refine zg_iconst hX dMo_fits_71 (1 : Int32) (by decide) ?_
          refine zg_goto (tgt := 76) hX dMo_fits_72 rfl ?_
          exact zg_sub (zl_k (zl_k (zl_k (zl_d (zl_d (zl_k zl_n)))))) (zm_Mo_fits_j76 hX hr hm ih w49 a0 x1 x2 x5 (1 : Int32) h)
        · refine zg_iconst hX dMo_fits_75 (0 : Int32) (by decide) ?_
          exact zg_sub (zl_k (zl_k (zl_k (zl_d (zl_d (zl_k zl_n)))))) (zm_Mo_fits_j76 hX hr hm ih w49 a0 x1 x2 x5 (0 : Int32) h)
set_option maxHeartbeats 4000000 in
set_option maxRecDepth 100000 in
theorem zm_Mo_fits_j39 {X : zg_X} {D : va_G} {G : zw_G} {A : Nat → Prop} {F : Nat} {r : Int32 × zw_T} (hX : zg_ok X cMo_fits RMo 6 1 22 128 0 D G A) (hr : zg_rt X = some .boolean) (hm : zg_nm X = yMo_fits.name) (w : zw_T) (a0 : Nat) (x1 : Int32) (x2 : Int32) (s0 : Int32) (h : zf_Mo_fits_j39 F w a0 x1 x2 s0 = some r) : zg X D G A (zg_Q X D G A 128 0 (zr_i r)) 128 0 w 39 [some (va_rf (some a0)), some (.int x1), some (.int x2), none, none, none] [.int s0] := by
  unfold zf_Mo_fits_j39 at h
  refine zg_istore hX dMo_fits_39 (Nat.le_of_ble_eq_true rfl) rfl h (fun y39 h => ?_)
  refine zg_iload_n hX dMo_fits_41 rfl ?_
  refine zg_istore hX dMo_fits_42 (Nat.le_of_ble_eq_true rfl) rfl h (fun y42 h => ?_)
  exact zg_sub (zl_k (zl_k (zl_k (zl_d (zl_k (zl_k zl_n)))))) (zm_Mo_fits_L44 hX hr hm F w a0 x1 x2 y39 y42 h)
set_option maxHeartbeats 4000000 in
set_option maxRecDepth 100000 in
theorem zm_Mo_fits_j38 {X : zg_X} {D : va_G} {G : zw_G} {A : Nat → Prop} {F : Nat} {r : Int32 × zw_T} (hX : zg_ok X cMo_fits RMo 6 1 22 128 0 D G A) (hr : zg_rt X = some .boolean) (hm : zg_nm X = yMo_fits.name) (w : zw_T) (a0 : Nat) (x1 : Int32) (x2 : Int32) (h : zf_Mo_fits_j38 F w a0 x1 x2 = some r) : zg X D G A (zg_Q X D G A 128 0 (zr_i r)) 128 0 w 38 [some (va_rf (some a0)), some (.int x1), some (.int x2), none, none, none] [] := by
  unfold zf_Mo_fits_j38 at h
  refine zg_iconst hX dMo_fits_38 (0 : Int32) (by decide) ?_
  exact zg_sub (zl_k (zl_k (zl_k (zl_d (zl_d (zl_d zl_n)))))) (zm_Mo_fits_j39 hX hr hm w a0 x1 x2 (0 : Int32) h)
set_option maxHeartbeats 4000000 in
set_option maxRecDepth 100000 in
theorem zm_Mo_fits (l : Launch) (D : va_G) (G : zw_G) (A : Nat → Prop) (F : Nat) (w : zw_T) (a0 : Nat) (x1 : Int32) (x2 : Int32) (x3 : Int32) (r : Int32 × zw_T) (h : zf_Mo_fits F w a0 x1 x2 x3 = some r) : zc l yMo_fits wsMo_fits 1 22 128 0 D G A [.ref a0, .int x1, .int x2, .int x3] w (zr_i r) := by
  refine zc_of (ret := some .boolean) [some (va_rf (some a0)), some (.int x1), some (.int x2), some (.int x3), none, none] (plainFor_of_name (by decide +kernel)) rfl (Nat.le_of_ble_eq_true rfl) rfl rfl (fun X hX hr hm => ?_)
  unfold zf_Mo_fits at h
  refine zg_iload_n hX dMo_fits_0 rfl ?_
  refine zg_bipush hX dMo_fits_1 (16 : Int32) (by decide) ?_
  refine zg_irem hX dMo_fits_3 (by decide) ?_
  refine zg_iconst hX dMo_fits_4 (2 : Int32) (by decide) ?_
  refine zg_idiv hX dMo_fits_5 (by decide) ?_
  refine zg_aload_n (x := (some a0)) hX dMo_fits_6 rfl ?_
  refine zg_getR (ci := 9) (k := 1) hc_9 (by decide) (by decide) hin_9 zx_623 ft_9_1 hX dMo_fits_7 h (fun a7 h => ?_)
  refine zg_aload_n (x := (some a0)) hX dMo_fits_10 rfl ?_
  refine zg_getR (ci := 9) (k := 5) hc_9 (by decide) (by decide) hin_9 zx_627 ft_9_5 hX dMo_fits_11 h (fun a11 h => ?_)
  refine zg_iload_n hX dMo_fits_14 rfl ?_
  refine zg_iald (kd := 123) (by decide) (by decide) hX dMo_fits_15 h (fun a15 j15 h => ?_)
  refine zg_iald (kd := 120) (by decide) (by decide) hX dMo_fits_16 h (fun a16 j16 h => ?_)
  refine zg_bipush hX dMo_fits_17 (8 : Int32) (by decide) ?_
  refine zg_irem hX dMo_fits_19 (by decide) ?_
  refine zg_icmp_ne (tgt := 38) hX dMo_fits_20 rfl h (fun h => ?_) (fun h => ?_)
  · refine zg_iload_n hX dMo_fits_23 rfl ?_
    refine zg_aload_n (x := (some a0)) hX dMo_fits_24 rfl ?_
    refine zg_iload_n hX dMo_fits_25 rfl ?_
    obtain ⟨a26, e26, t26, h⟩ := zf_at_e h
    obtain ⟨v26, w26, q26, h⟩ := zf_bd_e h
    refine zg_callV_i (mcy := 0) (v := v26) (w1 := w26) (st := [.int x2]) hc_9 (by decide) e26 t26 [.int x1] (fun l => zm_Mo_wordsOf l D G A F w a26 x1 (v26, w26) q26) (zt_V zx_806 zx_808 zs_22 zx_5 zx_809) rfl hd_Mo_wordsOf (by decide) (by decide) (by decide) (Nat.le_of_ble_eq_true rfl) rfl rfl hX dMo_fits_26 ?_
    refine zg_iadd hX dMo_fits_29 ?_
    refine zg_iload_n hX dMo_fits_30 rfl ?_
    refine zg_icmp_gt (tgt := 38) hX dMo_fits_31 rfl h (fun h => ?_) (fun h => ?_)
    · exact zg_sub (zl_k (zl_k (zl_k (zl_d (zl_d (zl_d zl_n)))))) (zm_Mo_fits_j38 hX hr hm w26 a0 x1 x2 h)
    · refine zg_iconst hX dMo_fits_34 (1 : Int32) (by decide) ?_
      refine zg_goto (tgt := 39) hX dMo_fits_35 rfl ?_
      exact zg_sub (zl_k (zl_k (zl_k (zl_d (zl_d (zl_d zl_n)))))) (zm_Mo_fits_j39 hX hr hm w26 a0 x1 x2 (1 : Int32) h)
  · exact zg_sub (zl_k (zl_k (zl_k (zl_d (zl_d (zl_d zl_n)))))) (zm_Mo_fits_j38 hX hr hm w a0 x1 x2 h)
def zf_Mo_flip (F : Nat) (w : zw_T) (a0 : Nat) (x1 : Int32) : Option (Int32 × zw_T) :=
  if x1 < 0 then (
  some ((-1 : Int32), w))
  else (
  zf_at w 10 (some a0) fun a6 =>
  if x1 < (zw_I w 1592 a6 0) then (
  zf_at w 10 (some a0) fun a15 =>
  zf_at w 10 (some a0) fun a21 =>
  zf_ix w 130 (zw_R w 1591 a21 0) x1 fun a25 j25 =>
  zf_ix w 130 (zw_R w 1591 a15 0) x1 fun a27 j27 => zf_let (zw_sI w 130 a27 j27 ((1 : Int32) - (zw_I w 130 a25 j25))) fun w27 =>
  zf_at w27 10 (some a0) fun a29 =>
  zf_ix w27 130 (zw_R w27 1591 a29 0) x1 fun a33 j33 =>
  some ((zw_I w27 130 a33 j33), w27))
  else (
  some ((-1 : Int32), w)))
set_option maxHeartbeats 4000000 in
set_option maxRecDepth 100000 in
theorem zm_Mo_flip (l : Launch) (D : va_G) (G : zw_G) (A : Nat → Prop) (F : Nat) (w : zw_T) (a0 : Nat) (x1 : Int32) (r : Int32 × zw_T) (h : zf_Mo_flip F w a0 x1 = some r) : zc l yMo_flip wsMo_flip 0 0 128 0 D G A [.ref a0, .int x1] w (zr_i r) := by
  refine zc_of (ret := some .int) [some (va_rf (some a0)), some (.int x1)] (plainFor_of_name (by decide +kernel)) rfl (Nat.le_of_ble_eq_true rfl) rfl rfl (fun X hX hr hm => ?_)
  unfold zf_Mo_flip at h
  refine zg_iload_n hX dMo_flip_0 rfl ?_
  refine zg_if_lt (tgt := 12) hX dMo_flip_1 rfl h (fun h => ?_) (fun h => ?_)
  · refine zg_iconst hX dMo_flip_12 (-1 : Int32) (by decide) ?_
    cases h
    exact zg_iret hX hr (by decide) dMo_flip_13
  · refine zg_iload_n hX dMo_flip_4 rfl ?_
    refine zg_aload_n (x := (some a0)) hX dMo_flip_5 rfl ?_
    refine zg_getI (ci := 9) (k := 16) hc_9 (by decide) (by decide) hin_9 zx_638 ft_9_16 hX dMo_flip_6 h (fun a6 h => ?_)
    refine zg_icmp_lt (tgt := 14) hX dMo_flip_9 rfl h (fun h => ?_) (fun h => ?_)
    · refine zg_aload_n (x := (some a0)) hX dMo_flip_14 rfl ?_
      refine zg_getR (ci := 9) (k := 15) hc_9 (by decide) (by decide) hin_9 zx_637 ft_9_15 hX dMo_flip_15 h (fun a15 h => ?_)
      refine zg_iload_n hX dMo_flip_18 rfl ?_
      refine zg_iconst hX dMo_flip_19 (1 : Int32) (by decide) ?_
      refine zg_aload_n (x := (some a0)) hX dMo_flip_20 rfl ?_
      refine zg_getR (ci := 9) (k := 15) hc_9 (by decide) (by decide) hin_9 zx_637 ft_9_15 hX dMo_flip_21 h (fun a21 h => ?_)
      refine zg_iload_n hX dMo_flip_24 rfl ?_
      refine zg_iald (kd := 130) (by decide) (by decide) hX dMo_flip_25 h (fun a25 j25 h => ?_)
      refine zg_isub hX dMo_flip_26 ?_
      refine zg_iast (kd := 130) (by decide) (by decide) hX dMo_flip_27 h (fun w27 h => ?_)
      refine zg_aload_n (x := (some a0)) hX dMo_flip_28 rfl ?_
      refine zg_getR (ci := 9) (k := 15) hc_9 (by decide) (by decide) hin_9 zx_637 ft_9_15 hX dMo_flip_29 h (fun a29 h => ?_)
      refine zg_iload_n hX dMo_flip_32 rfl ?_
      refine zg_iald (kd := 130) (by decide) (by decide) hX dMo_flip_33 h (fun a33 j33 h => ?_)
      cases h
      exact zg_iret hX hr (by decide) dMo_flip_34
    · refine zg_iconst hX dMo_flip_12 (-1 : Int32) (by decide) ?_
      cases h
      exact zg_iret hX hr (by decide) dMo_flip_13
def zf_Mo_hear_L42 (F : Nat) : Nat → zw_T → Nat → Int32 → Int32 → Option (Int32 × zw_T)
  | 0, _, _, _, _ => none
  | n + 1, w, a0, x3, x4 =>
  zf_at w 10 (some a0) fun a45 =>
  if (zw_I w 1592 a45 0) ≤ x4 then (
  zf_at w 10 (some a0) fun a106 =>
  zf_bv (zf_Mo_finish F w a106 (0 : Int32)) fun w106 =>
  zf_at w106 10 (some a0) fun a110 =>
  some ((zw_I w106 1611 a110 0), w106))
  else (
  zf_let (x4 + (1 : Int32)) fun y51 =>
  zf_at w 10 (some a0) fun a55 =>
  zf_at w 10 (some a0) fun a60 =>
  zf_ix w 139 (zw_R w 1606 a55 0) ((4 : Int32) * (zw_I w 1607 a60 0)) fun a65 j65 =>
  zf_ix w 139 (zw_R w 1606 a55 0) ((4 : Int32) * (zw_I w 1607 a60 0)) fun a68 j68 => zf_let (zw_sI w 139 a68 j68 ((zw_I w 139 a65 j65) + (1 : Int32))) fun w68 =>
  if (y51 - x3) < (32 : Int32) then (
  zf_Mo_hear_L42 F n w68 a0 x3 y51)
  else (
  zf_at w68 10 (some a0) fun a84 =>
  zf_bd (zf_Mo_isSync F w68 a84 (y51 - (32 : Int32))) fun v84 w84 =>
  if v84 = 0 then (
  zf_Mo_hear_L42 F n w84 a0 x3 y51)
  else (
  zf_at w84 10 (some a0) fun a93 =>
  zf_bd (zf_Mo_batches F w84 a93 y51) fun v93 w93 =>
  zf_let v93 fun y96 =>
  zf_let y96 fun y100 =>
  zf_Mo_hear_L42 F n w93 a0 y100 y96)))
def zf_Mo_hear (F : Nat) (w : zw_T) (a0 : Nat) (x1 : Int32) (x2 : Int32) : Option (Int32 × zw_T) :=
  zf_at w 10 (some a0) fun a2 =>
  zf_bd (zf_Mo_isPager F w a2 x1) fun v2 w2 =>
  if v2 = 0 then (
  some ((-1 : Int32), w2))
  else (
  if x2 < 0 then (
  some ((-1 : Int32), w2))
  else (
  zf_at w2 10 (some a0) fun a14 =>
  if x2 < (zw_I w2 1592 a14 0) then (
  zf_at w2 10 (some a0) fun a24 => zf_let (zw_sI w2 1607 a24 0 x1) fun w24 =>
  zf_at w24 10 (some a0) fun a29 => zf_let (zw_sI w24 1608 a29 0 (-1 : Int32)) fun w29 =>
  zf_at w29 10 (some a0) fun a34 => zf_let (zw_sI w29 1611 a34 0 (0 : Int32)) fun w34 =>
  zf_let x2 fun y38 =>
  zf_let x2 fun y40 =>
  zf_Mo_hear_L42 F F w34 a0 y38 y40)
  else (
  some ((-1 : Int32), w2))))
set_option maxHeartbeats 4000000 in
set_option maxRecDepth 100000 in
theorem zm_Mo_hear_L42 {X : zg_X} {D : va_G} {G : zw_G} {A : Nat → Prop} {F : Nat} {r : Int32 × zw_T} (hX : zg_ok X cMo_hear RMo 5 5 121 128 0 D G A) (hr : zg_rt X = some .int) (hm : zg_nm X = yMo_hear.name) : ∀ (n : Nat) (w : zw_T) (a0 : Nat) (x3 : Int32) (x4 : Int32), zf_Mo_hear_L42 F n w a0 x3 x4 = some r → zg X D G A (zg_Q X D G A 128 0 (zr_i r)) 128 0 w 42 [some (va_rf (some a0)), none, none, some (.int x3), some (.int x4)] [] := by
  intro n
  induction n with
  | zero =>
    intro w a0 x3 x4 h
    unfold zf_Mo_hear_L42 at h
    cases h
  | succ n ih =>
    intro w a0 x3 x4 h
    rw [zf_Mo_hear_L42] at h
    refine zg_iload hX dMo_hear_42 rfl ?_
    refine zg_aload_n (x := (some a0)) hX dMo_hear_44 rfl ?_
    refine zg_getI (ci := 9) (k := 16) hc_9 (by decide) (by decide) hin_9 zx_638 ft_9_16 hX dMo_hear_45 h (fun a45 h => ?_)
    refine zg_icmp_ge (tgt := 104) hX dMo_hear_48 rfl h (fun h => ?_) (fun h => ?_)
    · refine zg_aload_n (x := (some a0)) hX dMo_hear_104 rfl ?_
      refine zg_iconst hX dMo_hear_105 (0 : Int32) (by decide) ?_
      obtain ⟨a106, e106, t106, h⟩ := zf_at_e h
      obtain ⟨w106, q106, h⟩ := zf_bv_e h
      refine zg_callV_v (mcy := 0) (w1 := w106) (st := []) hc_9 (by decide) e106 t106 [.int (0 : Int32)] (fun l => zm_Mo_finish l D G A F w a106 (0 : Int32) w106 q106) (zt_V zx_868 zx_870 zs_33 zx_5 zx_871) rfl hd_Mo_finish (by decide) (by decide) (by decide) (Nat.le_of_ble_eq_true rfl) rfl rfl hX dMo_hear_106 ?_
      refine zg_aload_n (x := (some a0)) hX dMo_hear_109 rfl ?_
      refine zg_getI (ci := 9) (k := 35) hc_9 (by decide) (by decide) hin_9 zx_655 ft_9_35 hX dMo_hear_110 h (fun a110 h => ?_)
      cases h
      exact zg_iret hX hr (by decide) dMo_hear_113
    · refine zg_iinc hX dMo_hear_51 (1 : Int32) rfl (by decide) (Nat.le_of_ble_eq_true rfl) rfl h (fun y51 h => ?_)
      refine zg_aload_n (x := (some a0)) hX dMo_hear_54 rfl ?_
      refine zg_getR (ci := 9) (k := 30) hc_9 (by decide) (by decide) hin_9 zx_650 ft_9_30 hX dMo_hear_55 h (fun a55 h => ?_)
      refine zg_iconst hX dMo_hear_58 (4 : Int32) (by decide) ?_
      refine zg_aload_n (x := (some a0)) hX dMo_hear_59 rfl ?_
      refine zg_getI (ci := 9) (k := 31) hc_9 (by decide) (by decide) hin_9 zx_651 ft_9_31 hX dMo_hear_60 h (fun a60 h => ?_)
      refine zg_imul hX dMo_hear_63 ?_
      refine zg_dup2 hX dMo_hear_64 rfl (zv_cat _) ?_
      refine zg_iald (kd := 139) (by decide) (by decide) hX dMo_hear_65 h (fun a65 j65 h => ?_)
      refine zg_iconst hX dMo_hear_66 (1 : Int32) (by decide) ?_
      refine zg_iadd hX dMo_hear_67 ?_
      refine zg_iast (kd := 139) (by decide) (by decide) hX dMo_hear_68 h (fun w68 h => ?_)
      refine zg_iload hX dMo_hear_69 rfl ?_
      refine zg_iload_n hX dMo_hear_71 rfl ?_
      refine zg_isub hX dMo_hear_72 ?_
      refine zg_bipush hX dMo_hear_73 (32 : Int32) (by decide) ?_
      refine zg_icmp_lt (tgt := 42) hX dMo_hear_75 rfl h (fun h => ?_) (fun h => ?_)
      · exact zg_sub (zl_k (zl_d (zl_d (zl_k (zl_k zl_n))))) (ih w68 a0 x3 y51 h)
      · refine zg_aload_n (x := (some a0)) hX dMo_hear_78 rfl ?_
        refine zg_iload hX dMo_hear_79 rfl ?_
        refine zg_bipush hX dMo_hear_81 (32 : Int32) (by decide) ?_
        refine zg_isub hX dMo_hear_83 ?_
        obtain ⟨a84, e84, t84, h⟩ := zf_at_e h
        obtain ⟨v84, w84, q84, h⟩ := zf_bd_e h
        refine zg_callV_i (mcy := 0) (v := v84) (w1 := w84) (st := []) hc_9 (by decide) e84 t84 [.int (y51 - (32 : Int32))] (fun l => zm_Mo_isSync l D G A F w68 a84 (y51 - (32 : Int32)) (v84, w84) q84) (zt_V zx_844 zx_846 zs_28 zx_5 zx_847) rfl hd_Mo_isSync (by decide) (by decide) (by decide) (Nat.le_of_ble_eq_true rfl) rfl rfl hX dMo_hear_84 ?_
        refine zg_if_eq (tgt := 42) hX dMo_hear_87 rfl h (fun h => ?_) (fun h => ?_)
        · exact zg_sub (zl_k (zl_d (zl_d (zl_k (zl_k zl_n))))) (ih w84 a0 x3 y51 h)
        · refine zg_aload_n (x := (some a0)) hX dMo_hear_90 rfl ?_
          refine zg_iload hX dMo_hear_91 rfl ?_
          obtain ⟨a93, e93, t93, h⟩ := zf_at_e h
          obtain ⟨v93, w93, q93, h⟩ := zf_bd_e h
          refine zg_callV_i (mcy := 0) (v := v93) (w1 := w93) (st := []) hc_9 (by decide) e93 t93 [.int y51] (fun l => zm_Mo_batches l D G A F w84 a93 y51 (v93, w93) q93) (zt_V zx_855 zx_857 zs_30 zx_5 zx_858) rfl hd_Mo_batches (by decide) (by decide) (by decide) (Nat.le_of_ble_eq_true rfl) rfl rfl hX dMo_hear_93 ?_
          refine zg_istore hX dMo_hear_96 (Nat.le_of_ble_eq_true rfl) rfl h (fun y96 h => ?_)
          refine zg_iload hX dMo_hear_98 rfl ?_
          refine zg_istore_n hX dMo_hear_100 (Nat.le_of_ble_eq_true rfl) rfl h (fun y100 h => ?_)
          refine zg_goto (tgt := 42) hX dMo_hear_101 rfl ?_
          exact zg_sub (zl_k (zl_d (zl_d (zl_k (zl_k zl_n))))) (ih w93 a0 y100 y96 h)
set_option maxHeartbeats 4000000 in
set_option maxRecDepth 100000 in
theorem zm_Mo_hear (l : Launch) (D : va_G) (G : zw_G) (A : Nat → Prop) (F : Nat) (w : zw_T) (a0 : Nat) (x1 : Int32) (x2 : Int32) (r : Int32 × zw_T) (h : zf_Mo_hear F w a0 x1 x2 = some r) : zc l yMo_hear wsMo_hear 5 121 128 0 D G A [.ref a0, .int x1, .int x2] w (zr_i r) := by
  refine zc_of (ret := some .int) [some (va_rf (some a0)), some (.int x1), some (.int x2), none, none] (plainFor_of_name (by decide +kernel)) rfl (Nat.le_of_ble_eq_true rfl) rfl rfl (fun X hX hr hm => ?_)
  unfold zf_Mo_hear at h
  refine zg_aload_n (x := (some a0)) hX dMo_hear_0 rfl ?_
  refine zg_iload_n hX dMo_hear_1 rfl ?_
  obtain ⟨a2, e2, t2, h⟩ := zf_at_e h
  obtain ⟨v2, w2, q2, h⟩ := zf_bd_e h
  refine zg_callV_i (mcy := 0) (v := v2) (w1 := w2) (st := []) hc_9 (by decide) e2 t2 [.int x1] (fun l => zm_Mo_isPager l D G A F w a2 x1 (v2, w2) q2) (zt_V zx_762 zx_764 zs_17 zx_5 zx_765) rfl hd_Mo_isPager (by decide) (by decide) (by decide) (Nat.le_of_ble_eq_true rfl) rfl rfl hX dMo_hear_2 ?_
  refine zg_if_eq (tgt := 20) hX dMo_hear_5 rfl h (fun h => ?_) (fun h => ?_)
  · refine zg_iconst hX dMo_hear_20 (-1 : Int32) (by decide) ?_
    cases h
    exact zg_iret hX hr (by decide) dMo_hear_21
  · refine zg_iload_n hX dMo_hear_8 rfl ?_
    refine zg_if_lt (tgt := 20) hX dMo_hear_9 rfl h (fun h => ?_) (fun h => ?_)
    · refine zg_iconst hX dMo_hear_20 (-1 : Int32) (by decide) ?_
      cases h
      exact zg_iret hX hr (by decide) dMo_hear_21
    · refine zg_iload_n hX dMo_hear_12 rfl ?_
      refine zg_aload_n (x := (some a0)) hX dMo_hear_13 rfl ?_
      refine zg_getI (ci := 9) (k := 16) hc_9 (by decide) (by decide) hin_9 zx_638 ft_9_16 hX dMo_hear_14 h (fun a14 h => ?_)
      refine zg_icmp_lt (tgt := 22) hX dMo_hear_17 rfl h (fun h => ?_) (fun h => ?_)
      · refine zg_aload_n (x := (some a0)) hX dMo_hear_22 rfl ?_
        refine zg_iload_n hX dMo_hear_23 rfl ?_
        refine zg_putI (ci := 9) (k := 31) hc_9 (by decide) (by decide) hin_9 zx_651 ft_9_31 tyMo okMo nmMo rfl (vp_nar_int _) rfl hX dMo_hear_24 h (fun w24 h => ?_)
        refine zg_aload_n (x := (some a0)) hX dMo_hear_27 rfl ?_
        refine zg_iconst hX dMo_hear_28 (-1 : Int32) (by decide) ?_
        refine zg_putI (ci := 9) (k := 32) hc_9 (by decide) (by decide) hin_9 zx_652 ft_9_32 tyMo okMo nmMo rfl (vp_nar_int _) rfl hX dMo_hear_29 h (fun w29 h => ?_)
        refine zg_aload_n (x := (some a0)) hX dMo_hear_32 rfl ?_
        refine zg_iconst hX dMo_hear_33 (0 : Int32) (by decide) ?_
        refine zg_putI (ci := 9) (k := 35) hc_9 (by decide) (by decide) hin_9 zx_655 ft_9_35 tyMo okMo nmMo rfl (vp_nar_int _) rfl hX dMo_hear_34 h (fun w34 h => ?_)
        refine zg_iload_n hX dMo_hear_37 rfl ?_
        refine zg_istore_n hX dMo_hear_38 (Nat.le_of_ble_eq_true rfl) rfl h (fun y38 h => ?_)
        refine zg_iload_n hX dMo_hear_39 rfl ?_
        refine zg_istore hX dMo_hear_40 (Nat.le_of_ble_eq_true rfl) rfl h (fun y40 h => ?_)
        exact zg_sub (zl_k (zl_d (zl_d (zl_k (zl_k zl_n))))) (zm_Mo_hear_L42 hX hr hm F w34 a0 y38 y40 h)
      · refine zg_iconst hX dMo_hear_20 (-1 : Int32) (by decide) ?_
        cases h
        exact zg_iret hX hr (by decide) dMo_hear_21
def zf_Mo_identity_L41 (F : Nat) : Nat → zw_T → Nat → Int32 → Int32 → Int32 → Option (Int32 × zw_T)
  | 0, _, _, _, _, _ => none
  | n + 1, w, a0, x1, x2, x3 =>
  zf_at w 10 (some a0) fun a43 =>
  if (zw_I w 1576 a43 0) ≤ x3 then (
  zf_at w 10 (some a0) fun a68 =>
  zf_at w 10 (some a0) fun a72 =>
  zf_ix w 120 (zw_R w 1577 a68 0) (zw_I w 1576 a72 0) fun a76 j76 => zf_let (zw_sI w 120 a76 j76 x1) fun w76 =>
  zf_at w76 10 (some a0) fun a78 =>
  zf_at w76 10 (some a0) fun a82 =>
  zf_ix w76 121 (zw_R w76 1578 a78 0) (zw_I w76 1576 a82 0) fun a86 j86 => zf_let (zw_sI w76 121 a86 j86 x2) fun w86 =>
  zf_at w86 10 (some a0) fun a89 =>
  zf_at w86 10 (some a0) fun a94 => zf_let (zw_sI w86 1576 a94 0 ((zw_I w86 1576 a89 0) + (1 : Int32))) fun w94 =>
  zf_at w94 10 (some a0) fun a98 =>
  some (((zw_I w94 1576 a98 0) - (1 : Int32)), w94))
  else (
  zf_at w 10 (some a0) fun a50 =>
  zf_ix w 120 (zw_R w 1577 a50 0) x3 fun a54 j54 =>
  if (zw_I w 120 a54 j54) = x1 then (
  some ((-1 : Int32), w))
  else (
  zf_let (x3 + (1 : Int32)) fun y61 =>
  zf_Mo_identity_L41 F n w a0 x1 x2 y61))
def zf_Mo_identity (F : Nat) (w : zw_T) (a0 : Nat) (x1 : Int32) (x2 : Int32) : Option (Int32 × zw_T) :=
  if x1 < 0 then (
  some ((-1 : Int32), w))
  else (
  if (2097152 : Int32) ≤ x1 then (
  some ((-1 : Int32), w))
  else (
  if x2 < 0 then (
  some ((-1 : Int32), w))
  else (
  if (1 : Int32) < x2 then (
  some ((-1 : Int32), w))
  else (
  if (x1 / (8 : Int32)) = (250958 : Int32) then (
  some ((-1 : Int32), w))
  else (
  zf_at w 10 (some a0) fun a29 =>
  if (zw_I w 1576 a29 0) = (12 : Int32) then (
  some ((-1 : Int32), w))
  else (
  zf_let (0 : Int32) fun y40 =>
  zf_Mo_identity_L41 F F w a0 x1 x2 y40))))))
set_option maxHeartbeats 4000000 in
set_option maxRecDepth 100000 in
theorem zm_Mo_identity_L41 {X : zg_X} {D : va_G} {G : zw_G} {A : Nat → Prop} {F : Nat} {r : Int32 × zw_T} (hX : zg_ok X cMo_identity RMo 4 0 0 128 0 D G A) (hr : zg_rt X = some .int) (hm : zg_nm X = yMo_identity.name) : ∀ (n : Nat) (w : zw_T) (a0 : Nat) (x1 : Int32) (x2 : Int32) (x3 : Int32), zf_Mo_identity_L41 F n w a0 x1 x2 x3 = some r → zg X D G A (zg_Q X D G A 128 0 (zr_i r)) 128 0 w 41 [some (va_rf (some a0)), some (.int x1), some (.int x2), some (.int x3)] [] := by
  intro n
  induction n with
  | zero =>
    intro w a0 x1 x2 x3 h
    unfold zf_Mo_identity_L41 at h
    cases h
  | succ n ih =>
    intro w a0 x1 x2 x3 h
    rw [zf_Mo_identity_L41] at h
    refine zg_iload_n hX dMo_identity_41 rfl ?_
    refine zg_aload_n (x := (some a0)) hX dMo_identity_42 rfl ?_
    refine zg_getI (ci := 9) (k := 0) hc_9 (by decide) (by decide) hin_9 zx_622 ft_9_0 hX dMo_identity_43 h (fun a43 h => ?_)
    refine zg_icmp_ge (tgt := 67) hX dMo_identity_46 rfl h (fun h => ?_) (fun h => ?_)
    · refine zg_aload_n (x := (some a0)) hX dMo_identity_67 rfl ?_
      refine zg_getR (ci := 9) (k := 1) hc_9 (by decide) (by decide) hin_9 zx_623 ft_9_1 hX dMo_identity_68 h (fun a68 h => ?_)
      refine zg_aload_n (x := (some a0)) hX dMo_identity_71 rfl ?_
      refine zg_getI (ci := 9) (k := 0) hc_9 (by decide) (by decide) hin_9 zx_622 ft_9_0 hX dMo_identity_72 h (fun a72 h => ?_)
      refine zg_iload_n hX dMo_identity_75 rfl ?_
      refine zg_iast (kd := 120) (by decide) (by decide) hX dMo_identity_76 h (fun w76 h => ?_)
      refine zg_aload_n (x := (some a0)) hX dMo_identity_77 rfl ?_
      refine zg_getR (ci := 9) (k := 2) hc_9 (by decide) (by decide) hin_9 zx_624 ft_9_2 hX dMo_identity_78 h (fun a78 h => ?_)
      refine zg_aload_n (x := (some a0)) hX dMo_identity_81 rfl ?_
      refine zg_getI (ci := 9) (k := 0) hc_9 (by decide) (by decide) hin_9 zx_622 ft_9_0 hX dMo_identity_82 h (fun a82 h => ?_)
      refine zg_iload_n hX dMo_identity_85 rfl ?_
      refine zg_iast (kd := 121) (by decide) (by decide) hX dMo_identity_86 h (fun w86 h => ?_)
      refine zg_aload_n (x := (some a0)) hX dMo_identity_87 rfl ?_
      refine zg_dup hX dMo_identity_88 rfl ?_
      refine zg_getI (ci := 9) (k := 0) hc_9 (by decide) (by decide) hin_9 zx_622 ft_9_0 hX dMo_identity_89 h (fun a89 h => ?_)
      refine zg_iconst hX dMo_identity_92 (1 : Int32) (by decide) ?_
      refine zg_iadd hX dMo_identity_93 ?_
      refine zg_putI (ci := 9) (k := 0) hc_9 (by decide) (by decide) hin_9 zx_622 ft_9_0 tyMo okMo nmMo rfl (vp_nar_int _) rfl hX dMo_identity_94 h (fun w94 h => ?_)
      refine zg_aload_n (x := (some a0)) hX dMo_identity_97 rfl ?_
      refine zg_getI (ci := 9) (k := 0) hc_9 (by decide) (by decide) hin_9 zx_622 ft_9_0 hX dMo_identity_98 h (fun a98 h => ?_)
      refine zg_iconst hX dMo_identity_101 (1 : Int32) (by decide) ?_
      refine zg_isub hX dMo_identity_102 ?_
      cases h
      exact zg_iret hX hr (by decide) dMo_identity_103
    · refine zg_aload_n (x := (some a0)) hX dMo_identity_49 rfl ?_
      refine zg_getR (ci := 9) (k := 1) hc_9 (by decide) (by decide) hin_9 zx_623 ft_9_1 hX dMo_identity_50 h (fun a50 h => ?_)
      refine zg_iload_n hX dMo_identity_53 rfl ?_
      refine zg_iald (kd := 120) (by decide) (by decide) hX dMo_identity_54 h (fun a54 j54 h => ?_)
      refine zg_iload_n hX dMo_identity_55 rfl ?_
      refine zg_icmp_ne (tgt := 61) hX dMo_identity_56 rfl h (fun h => ?_) (fun h => ?_)
      · refine zg_iconst hX dMo_identity_59 (-1 : Int32) (by decide) ?_
        cases h
        exact zg_iret hX hr (by decide) dMo_identity_60
      · refine zg_iinc hX dMo_identity_61 (1 : Int32) rfl (by decide) (Nat.le_of_ble_eq_true rfl) rfl h (fun y61 h => ?_)
        refine zg_goto (tgt := 41) hX dMo_identity_64 rfl ?_
        exact zg_sub (zl_k (zl_k (zl_k (zl_k zl_n)))) (ih w a0 x1 x2 y61 h)
set_option maxHeartbeats 4000000 in
set_option maxRecDepth 100000 in
theorem zm_Mo_identity (l : Launch) (D : va_G) (G : zw_G) (A : Nat → Prop) (F : Nat) (w : zw_T) (a0 : Nat) (x1 : Int32) (x2 : Int32) (r : Int32 × zw_T) (h : zf_Mo_identity F w a0 x1 x2 = some r) : zc l yMo_identity wsMo_identity 0 0 128 0 D G A [.ref a0, .int x1, .int x2] w (zr_i r) := by
  refine zc_of (ret := some .int) [some (va_rf (some a0)), some (.int x1), some (.int x2), none] (plainFor_of_name (by decide +kernel)) rfl (Nat.le_of_ble_eq_true rfl) rfl rfl (fun X hX hr hm => ?_)
  unfold zf_Mo_identity at h
  refine zg_iload_n hX dMo_identity_0 rfl ?_
  refine zg_if_lt (tgt := 37) hX dMo_identity_1 rfl h (fun h => ?_) (fun h => ?_)
  · refine zg_iconst hX dMo_identity_37 (-1 : Int32) (by decide) ?_
    cases h
    exact zg_iret hX hr (by decide) dMo_identity_38
  · refine zg_iload_n hX dMo_identity_4 rfl ?_
    refine zg_ldc hX dMo_identity_5 (2097152 : Int32) zx_738 ?_
    refine zg_icmp_ge (tgt := 37) hX dMo_identity_7 rfl h (fun h => ?_) (fun h => ?_)
    · refine zg_iconst hX dMo_identity_37 (-1 : Int32) (by decide) ?_
      cases h
      exact zg_iret hX hr (by decide) dMo_identity_38
    · refine zg_iload_n hX dMo_identity_10 rfl ?_
      refine zg_if_lt (tgt := 37) hX dMo_identity_11 rfl h (fun h => ?_) (fun h => ?_)
      · refine zg_iconst hX dMo_identity_37 (-1 : Int32) (by decide) ?_
        cases h
        exact zg_iret hX hr (by decide) dMo_identity_38
      · refine zg_iload_n hX dMo_identity_14 rfl ?_
        refine zg_iconst hX dMo_identity_15 (1 : Int32) (by decide) ?_
        refine zg_icmp_gt (tgt := 37) hX dMo_identity_16 rfl h (fun h => ?_) (fun h => ?_)
        · refine zg_iconst hX dMo_identity_37 (-1 : Int32) (by decide) ?_
          cases h
          exact zg_iret hX hr (by decide) dMo_identity_38
        · refine zg_iload_n hX dMo_identity_19 rfl ?_
          refine zg_bipush hX dMo_identity_20 (8 : Int32) (by decide) ?_
          refine zg_idiv hX dMo_identity_22 (by decide) ?_
          refine zg_ldc hX dMo_identity_23 (250958 : Int32) zx_753 ?_
          refine zg_icmp_eq (tgt := 37) hX dMo_identity_25 rfl h (fun h => ?_) (fun h => ?_)
          · refine zg_iconst hX dMo_identity_37 (-1 : Int32) (by decide) ?_
            cases h
            exact zg_iret hX hr (by decide) dMo_identity_38
          · refine zg_aload_n (x := (some a0)) hX dMo_identity_28 rfl ?_
            refine zg_getI (ci := 9) (k := 0) hc_9 (by decide) (by decide) hin_9 zx_622 ft_9_0 hX dMo_identity_29 h (fun a29 h => ?_)
            refine zg_bipush hX dMo_identity_32 (12 : Int32) (by decide) ?_
            refine zg_icmp_ne (tgt := 39) hX dMo_identity_34 rfl h (fun h => ?_) (fun h => ?_)
            · refine zg_iconst hX dMo_identity_37 (-1 : Int32) (by decide) ?_
              cases h
              exact zg_iret hX hr (by decide) dMo_identity_38
            · refine zg_iconst hX dMo_identity_39 (0 : Int32) (by decide) ?_
              refine zg_istore_n hX dMo_identity_40 (Nat.le_of_ble_eq_true rfl) rfl h (fun y40 h => ?_)
              exact zg_sub (zl_k (zl_k (zl_k (zl_k zl_n)))) (zm_Mo_identity_L41 hX hr hm F w a0 x1 x2 y40 h)
def zf_Mo_isKept (F : Nat) (w : zw_T) (a0 : Nat) (x1 : Int32) (x2 : Int32) : Option (Int32 × zw_T) :=
  zf_at w 10 (some a0) fun a2 =>
  zf_bd (zf_Mo_isPager F w a2 x1) fun v2 w2 =>
  if v2 = 0 then (
  zf_b (0 : Int32) (some ((0 : Int32), w2)))
  else (
  if x2 < 0 then (
  zf_b (0 : Int32) (some ((0 : Int32), w2)))
  else (
  zf_at w2 10 (some a0) fun a14 =>
  zf_ix w2 133 (zw_R w2 1598 a14 0) x1 fun a18 j18 =>
  if (zw_I w2 133 a18 j18) ≤ x2 then (
  zf_b (0 : Int32) (some ((0 : Int32), w2)))
  else (
  zf_b (1 : Int32) (some ((1 : Int32), w2)))))
set_option maxHeartbeats 4000000 in
set_option maxRecDepth 100000 in
theorem zm_Mo_isKept (l : Launch) (D : va_G) (G : zw_G) (A : Nat → Prop) (F : Nat) (w : zw_T) (a0 : Nat) (x1 : Int32) (x2 : Int32) (r : Int32 × zw_T) (h : zf_Mo_isKept F w a0 x1 x2 = some r) : zc l yMo_isKept wsMo_isKept 1 21 128 0 D G A [.ref a0, .int x1, .int x2] w (zr_i r) := by
  refine zc_of (ret := some .boolean) [some (va_rf (some a0)), some (.int x1), some (.int x2)] (plainFor_of_name (by decide +kernel)) rfl (Nat.le_of_ble_eq_true rfl) rfl rfl (fun X hX hr hm => ?_)
  unfold zf_Mo_isKept at h
  refine zg_aload_n (x := (some a0)) hX dMo_isKept_0 rfl ?_
  refine zg_iload_n hX dMo_isKept_1 rfl ?_
  obtain ⟨a2, e2, t2, h⟩ := zf_at_e h
  obtain ⟨v2, w2, q2, h⟩ := zf_bd_e h
  refine zg_callV_i (mcy := 0) (v := v2) (w1 := w2) (st := []) hc_9 (by decide) e2 t2 [.int x1] (fun l => zm_Mo_isPager l D G A F w a2 x1 (v2, w2) q2) (zt_V zx_762 zx_764 zs_17 zx_5 zx_765) rfl hd_Mo_isPager (by decide) (by decide) (by decide) (Nat.le_of_ble_eq_true rfl) rfl rfl hX dMo_isKept_2 ?_
  refine zg_if_eq (tgt := 26) hX dMo_isKept_5 rfl h (fun h => ?_) (fun h => ?_)
  · refine zg_iconst hX dMo_isKept_26 (0 : Int32) (by decide) ?_
    obtain ⟨hb27, h⟩ := zf_b_e h
    cases h
    exact zg_zret hX hr (zf_b_n hb27).1 (by decide) dMo_isKept_27
  · refine zg_iload_n hX dMo_isKept_8 rfl ?_
    refine zg_if_lt (tgt := 26) hX dMo_isKept_9 rfl h (fun h => ?_) (fun h => ?_)
    · refine zg_iconst hX dMo_isKept_26 (0 : Int32) (by decide) ?_
      obtain ⟨hb27, h⟩ := zf_b_e h
      cases h
      exact zg_zret hX hr (zf_b_n hb27).1 (by decide) dMo_isKept_27
    · refine zg_iload_n hX dMo_isKept_12 rfl ?_
      refine zg_aload_n (x := (some a0)) hX dMo_isKept_13 rfl ?_
      refine zg_getR (ci := 9) (k := 22) hc_9 (by decide) (by decide) hin_9 zx_642 ft_9_22 hX dMo_isKept_14 h (fun a14 h => ?_)
      refine zg_iload_n hX dMo_isKept_17 rfl ?_
      refine zg_iald (kd := 133) (by decide) (by decide) hX dMo_isKept_18 h (fun a18 j18 h => ?_)
      refine zg_icmp_ge (tgt := 26) hX dMo_isKept_19 rfl h (fun h => ?_) (fun h => ?_)
      · refine zg_iconst hX dMo_isKept_26 (0 : Int32) (by decide) ?_
        obtain ⟨hb27, h⟩ := zf_b_e h
        cases h
        exact zg_zret hX hr (zf_b_n hb27).1 (by decide) dMo_isKept_27
      · refine zg_iconst hX dMo_isKept_22 (1 : Int32) (by decide) ?_
        refine zg_goto (tgt := 27) hX dMo_isKept_23 rfl ?_
        obtain ⟨hb27, h⟩ := zf_b_e h
        cases h
        exact zg_zret hX hr (zf_b_n hb27).1 (by decide) dMo_isKept_27
def zf_Mo_listensTo_j42 (F : Nat) (k7 : zw_T → Nat → Int32 → Int32 → Int32 → Int32 → Option (Int32 × zw_T)) (w : zw_T) (a0 : Nat) (x1 : Int32) (x2 : Int32) (x4 : Int32) (s0 : Int32) : Option (Int32 × zw_T) :=
  zf_let s0 fun y42 =>
  zf_let (x4 + (1 : Int32)) fun y43 =>
  k7 w a0 x1 x2 y42 y43
def zf_Mo_listensTo_j37 (F : Nat) (k7 : zw_T → Nat → Int32 → Int32 → Int32 → Int32 → Option (Int32 × zw_T)) (w : zw_T) (a0 : Nat) (x1 : Int32) (x2 : Int32) (x4 : Int32) : Option (Int32 × zw_T) :=
  zf_Mo_listensTo_j42 F k7 w a0 x1 x2 x4 (1 : Int32)
def zf_Mo_listensTo_L7 (F : Nat) : Nat → zw_T → Nat → Int32 → Int32 → Int32 → Int32 → Option (Int32 × zw_T)
  | 0, _, _, _, _, _, _ => none
  | n + 1, w, a0, x1, x2, x3, x4 =>
  zf_at w 10 (some a0) fun a13 =>
  zf_ix w 132 (zw_R w 1597 a13 0) x1 fun a17 j17 =>
  if (((4 : Int32) * x1) + (zw_I w 132 a17 j17)) ≤ x4 then (
  zf_b x3 (some (x3, w)))
  else (
  if x3 = 0 then (
  zf_at w 10 (some a0) fun a27 =>
  zf_ix w 131 (zw_R w 1596 a27 0) x4 fun a32 j32 =>
  if (zw_I w 131 a32 j32) = x2 then (
  zf_Mo_listensTo_j37 F (zf_Mo_listensTo_L7 F n) w a0 x1 x2 x4)
  else (
  zf_Mo_listensTo_j42 F (zf_Mo_listensTo_L7 F n) w a0 x1 x2 x4 (0 : Int32)))
  else (
  zf_Mo_listensTo_j37 F (zf_Mo_listensTo_L7 F n) w a0 x1 x2 x4))
def zf_Mo_listensTo (F : Nat) (w : zw_T) (a0 : Nat) (x1 : Int32) (x2 : Int32) : Option (Int32 × zw_T) :=
  zf_let (0 : Int32) fun y1 =>
  zf_let ((4 : Int32) * x1) fun y5 =>
  zf_Mo_listensTo_L7 F F w a0 x1 x2 y1 y5
set_option maxHeartbeats 4000000 in
set_option maxRecDepth 100000 in
theorem zm_Mo_listensTo_j42 {X : zg_X} {D : va_G} {G : zw_G} {A : Nat → Prop} {F : Nat} {k7 : zw_T → Nat → Int32 → Int32 → Int32 → Int32 → Option (Int32 × zw_T)} {r : Int32 × zw_T} (hX : zg_ok X cMo_listensTo RMo 5 0 0 128 0 D G A) (hr : zg_rt X = some .boolean) (hm : zg_nm X = yMo_listensTo.name) (hk7 : ∀ (w : zw_T) (a0 : Nat) (x1 : Int32) (x2 : Int32) (x3 : Int32) (x4 : Int32), k7 w a0 x1 x2 x3 x4 = some r → zg X D G A (zg_Q X D G A 128 0 (zr_i r)) 128 0 w 7 [some (va_rf (some a0)), some (.int x1), some (.int x2), some (.int x3), some (.int x4)] []) (w : zw_T) (a0 : Nat) (x1 : Int32) (x2 : Int32) (x4 : Int32) (s0 : Int32) (h : zf_Mo_listensTo_j42 F k7 w a0 x1 x2 x4 s0 = some r) : zg X D G A (zg_Q X D G A 128 0 (zr_i r)) 128 0 w 42 [some (va_rf (some a0)), some (.int x1), some (.int x2), none, some (.int x4)] [.int s0] := by
  unfold zf_Mo_listensTo_j42 at h
  refine zg_istore_n hX dMo_listensTo_42 (Nat.le_of_ble_eq_true rfl) rfl h (fun y42 h => ?_)
  refine zg_iinc hX dMo_listensTo_43 (1 : Int32) rfl (by decide) (Nat.le_of_ble_eq_true rfl) rfl h (fun y43 h => ?_)
  refine zg_goto (tgt := 7) hX dMo_listensTo_46 rfl ?_
  exact zg_sub (zl_k (zl_k (zl_k (zl_k (zl_k zl_n))))) (hk7 w a0 x1 x2 y42 y43 h)
set_option maxHeartbeats 4000000 in
set_option maxRecDepth 100000 in
theorem zm_Mo_listensTo_j37 {X : zg_X} {D : va_G} {G : zw_G} {A : Nat → Prop} {F : Nat} {k7 : zw_T → Nat → Int32 → Int32 → Int32 → Int32 → Option (Int32 × zw_T)} {r : Int32 × zw_T} (hX : zg_ok X cMo_listensTo RMo 5 0 0 128 0 D G A) (hr : zg_rt X = some .boolean) (hm : zg_nm X = yMo_listensTo.name) (hk7 : ∀ (w : zw_T) (a0 : Nat) (x1 : Int32) (x2 : Int32) (x3 : Int32) (x4 : Int32), k7 w a0 x1 x2 x3 x4 = some r → zg X D G A (zg_Q X D G A 128 0 (zr_i r)) 128 0 w 7 [some (va_rf (some a0)), some (.int x1), some (.int x2), some (.int x3), some (.int x4)] []) (w : zw_T) (a0 : Nat) (x1 : Int32) (x2 : Int32) (x4 : Int32) (h : zf_Mo_listensTo_j37 F k7 w a0 x1 x2 x4 = some r) : zg X D G A (zg_Q X D G A 128 0 (zr_i r)) 128 0 w 37 [some (va_rf (some a0)), some (.int x1), some (.int x2), none, some (.int x4)] [] := by
  unfold zf_Mo_listensTo_j37 at h
  refine zg_iconst hX dMo_listensTo_37 (1 : Int32) (by decide) ?_
  refine zg_goto (tgt := 42) hX dMo_listensTo_38 rfl ?_
  exact zg_sub (zl_k (zl_k (zl_k (zl_d (zl_k zl_n))))) (zm_Mo_listensTo_j42 hX hr hm hk7 w a0 x1 x2 x4 (1 : Int32) h)
set_option maxHeartbeats 4000000 in
set_option maxRecDepth 100000 in
theorem zm_Mo_listensTo_L7 {X : zg_X} {D : va_G} {G : zw_G} {A : Nat → Prop} {F : Nat} {r : Int32 × zw_T} (hX : zg_ok X cMo_listensTo RMo 5 0 0 128 0 D G A) (hr : zg_rt X = some .boolean) (hm : zg_nm X = yMo_listensTo.name) : ∀ (n : Nat) (w : zw_T) (a0 : Nat) (x1 : Int32) (x2 : Int32) (x3 : Int32) (x4 : Int32), zf_Mo_listensTo_L7 F n w a0 x1 x2 x3 x4 = some r → zg X D G A (zg_Q X D G A 128 0 (zr_i r)) 128 0 w 7 [some (va_rf (some a0)), some (.int x1), some (.int x2), some (.int x3), some (.int x4)] [] := by
  intro n
  induction n with
  | zero =>
    intro w a0 x1 x2 x3 x4 h
    unfold zf_Mo_listensTo_L7 at h
    cases h
  | succ n ih =>
    intro w a0 x1 x2 x3 x4 h
    rw [zf_Mo_listensTo_L7] at h
    refine zg_iload hX dMo_listensTo_7 rfl ?_
    refine zg_iconst hX dMo_listensTo_9 (4 : Int32) (by decide) ?_
    refine zg_iload_n hX dMo_listensTo_10 rfl ?_
    refine zg_imul hX dMo_listensTo_11 ?_
    refine zg_aload_n (x := (some a0)) hX dMo_listensTo_12 rfl ?_
    refine zg_getR (ci := 9) (k := 21) hc_9 (by decide) (by decide) hin_9 zx_641 ft_9_21 hX dMo_listensTo_13 h (fun a13 h => ?_)
    refine zg_iload_n hX dMo_listensTo_16 rfl ?_
    refine zg_iald (kd := 132) (by decide) (by decide) hX dMo_listensTo_17 h (fun a17 j17 h => ?_)
    refine zg_iadd hX dMo_listensTo_18 ?_
    refine zg_icmp_ge (tgt := 49) hX dMo_listensTo_19 rfl h (fun h => ?_) (fun h => ?_)
    · refine zg_iload_n hX dMo_listensTo_49 rfl ?_
      obtain ⟨hb50, h⟩ := zf_b_e h
      cases h
      exact zg_zret hX hr (zf_b_n hb50).1 (by decide) dMo_listensTo_50
    · refine zg_iload_n hX dMo_listensTo_22 rfl ?_
      refine zg_if_ne (tgt := 37) hX dMo_listensTo_23 rfl h (fun h => ?_) (fun h => ?_)
      · refine zg_aload_n (x := (some a0)) hX dMo_listensTo_26 rfl ?_
        refine zg_getR (ci := 9) (k := 20) hc_9 (by decide) (by decide) hin_9 zx_640 ft_9_20 hX dMo_listensTo_27 h (fun a27 h => ?_)
        refine zg_iload hX dMo_listensTo_30 rfl ?_
        refine zg_iald (kd := 131) (by decide) (by decide) hX dMo_listensTo_32 h (fun a32 j32 h => ?_)
        refine zg_iload_n hX dMo_listensTo_33 rfl ?_
        refine zg_icmp_ne (tgt := 41) hX dMo_listensTo_34 rfl h (fun h => ?_) (fun h => ?_)
        · exact zg_sub (zl_k (zl_k (zl_k (zl_d (zl_k zl_n))))) (zm_Mo_listensTo_j37 hX hr hm ih w a0 x1 x2 x4 h)
        · refine zg_iconst hX dMo_listensTo_41 (0 : Int32) (by decide) ?_
          exact zg_sub (zl_k (zl_k (zl_k (zl_d (zl_k zl_n))))) (zm_Mo_listensTo_j42 hX hr hm ih w a0 x1 x2 x4 (0 : Int32) h)
      · exact zg_sub (zl_k (zl_k (zl_k (zl_d (zl_k zl_n))))) (zm_Mo_listensTo_j37 hX hr hm ih w a0 x1 x2 x4 h)
set_option maxHeartbeats 4000000 in
set_option maxRecDepth 100000 in
theorem zm_Mo_listensTo (l : Launch) (D : va_G) (G : zw_G) (A : Nat → Prop) (F : Nat) (w : zw_T) (a0 : Nat) (x1 : Int32) (x2 : Int32) (r : Int32 × zw_T) (h : zf_Mo_listensTo F w a0 x1 x2 = some r) : zc l yMo_listensTo wsMo_listensTo 0 0 128 0 D G A [.ref a0, .int x1, .int x2] w (zr_i r) := by
  refine zc_of (ret := some .boolean) [some (va_rf (some a0)), some (.int x1), some (.int x2), none, none] (plainFor_of_name (by decide +kernel)) rfl (Nat.le_of_ble_eq_true rfl) rfl rfl (fun X hX hr hm => ?_)
  unfold zf_Mo_listensTo at h
  refine zg_iconst hX dMo_listensTo_0 (0 : Int32) (by decide) ?_
  refine zg_istore_n hX dMo_listensTo_1 (Nat.le_of_ble_eq_true rfl) rfl h (fun y1 h => ?_)
  refine zg_iconst hX dMo_listensTo_2 (4 : Int32) (by decide) ?_
  refine zg_iload_n hX dMo_listensTo_3 rfl ?_
  refine zg_imul hX dMo_listensTo_4 ?_
  refine zg_istore hX dMo_listensTo_5 (Nat.le_of_ble_eq_true rfl) rfl h (fun y5 h => ?_)
  exact zg_sub (zl_k (zl_k (zl_k (zl_k (zl_k zl_n))))) (zm_Mo_listensTo_L7 hX hr hm F w a0 x1 x2 y1 y5 h)
def zf_Mo_join (F : Nat) (w : zw_T) (a0 : Nat) (x1 : Int32) (x2 : Int32) : Option (Int32 × zw_T) :=
  zf_at w 10 (some a0) fun a2 =>
  zf_bd (zf_Mo_isPager F w a2 x1) fun v2 w2 =>
  if v2 = 0 then (
  some ((-1 : Int32), w2))
  else (
  zf_at w2 10 (some a0) fun a10 =>
  zf_bd (zf_Mo_isIdentity F w2 a10 x2) fun v10 w10 =>
  if v10 = 0 then (
  some ((-1 : Int32), w10))
  else (
  zf_at w10 10 (some a0) fun a17 =>
  zf_ix w10 132 (zw_R w10 1597 a17 0) x1 fun a21 j21 =>
  if (zw_I w10 132 a21 j21) = (4 : Int32) then (
  some ((-1 : Int32), w10))
  else (
  zf_at w10 10 (some a0) fun a29 =>
  zf_bd (zf_Mo_listensTo F w10 a29 x1 x2) fun v29 w29 =>
  if v29 = 0 then (
  zf_at w29 10 (some a0) fun a38 =>
  zf_at w29 10 (some a0) fun a45 =>
  zf_ix w29 132 (zw_R w29 1597 a45 0) x1 fun a49 j49 =>
  zf_ix w29 131 (zw_R w29 1596 a38 0) (((4 : Int32) * x1) + (zw_I w29 132 a49 j49)) fun a52 j52 => zf_let (zw_sI w29 131 a52 j52 x2) fun w52 =>
  zf_at w52 10 (some a0) fun a54 =>
  zf_ix w52 138 (zw_R w52 1605 a54 0) (((12 : Int32) * x1) + x2) fun a64 j64 => zf_let (zw_sI w52 138 a64 j64 (-1 : Int32)) fun w64 =>
  zf_at w64 10 (some a0) fun a66 =>
  zf_ix w64 132 (zw_R w64 1597 a66 0) x1 fun a71 j71 =>
  zf_ix w64 132 (zw_R w64 1597 a66 0) x1 fun a74 j74 => zf_let (zw_sI w64 132 a74 j74 ((zw_I w64 132 a71 j71) + (1 : Int32))) fun w74 =>
  zf_at w74 10 (some a0) fun a76 =>
  zf_ix w74 132 (zw_R w74 1597 a76 0) x1 fun a80 j80 =>
  some ((zw_I w74 132 a80 j80), w74))
  else (
  some ((-1 : Int32), w29)))))
set_option maxHeartbeats 4000000 in
set_option maxRecDepth 100000 in
theorem zm_Mo_join (l : Launch) (D : va_G) (G : zw_G) (A : Nat → Prop) (F : Nat) (w : zw_T) (a0 : Nat) (x1 : Int32) (x2 : Int32) (r : Int32 × zw_T) (h : zf_Mo_join F w a0 x1 x2 = some r) : zc l yMo_join wsMo_join 1 24 128 0 D G A [.ref a0, .int x1, .int x2] w (zr_i r) := by
  refine zc_of (ret := some .int) [some (va_rf (some a0)), some (.int x1), some (.int x2)] (plainFor_of_name (by decide +kernel)) rfl (Nat.le_of_ble_eq_true rfl) rfl rfl (fun X hX hr hm => ?_)
  unfold zf_Mo_join at h
  refine zg_aload_n (x := (some a0)) hX dMo_join_0 rfl ?_
  refine zg_iload_n hX dMo_join_1 rfl ?_
  obtain ⟨a2, e2, t2, h⟩ := zf_at_e h
  obtain ⟨v2, w2, q2, h⟩ := zf_bd_e h
  refine zg_callV_i (mcy := 0) (v := v2) (w1 := w2) (st := []) hc_9 (by decide) e2 t2 [.int x1] (fun l => zm_Mo_isPager l D G A F w a2 x1 (v2, w2) q2) (zt_V zx_762 zx_764 zs_17 zx_5 zx_765) rfl hd_Mo_isPager (by decide) (by decide) (by decide) (Nat.le_of_ble_eq_true rfl) rfl rfl hX dMo_join_2 ?_
  refine zg_if_eq (tgt := 35) hX dMo_join_5 rfl h (fun h => ?_) (fun h => ?_)
  · refine zg_iconst hX dMo_join_35 (-1 : Int32) (by decide) ?_
    cases h
    exact zg_iret hX hr (by decide) dMo_join_36
  · refine zg_aload_n (x := (some a0)) hX dMo_join_8 rfl ?_
    refine zg_iload_n hX dMo_join_9 rfl ?_
    obtain ⟨a10, e10, t10, h⟩ := zf_at_e h
    obtain ⟨v10, w10, q10, h⟩ := zf_bd_e h
    refine zg_callV_i (mcy := 0) (v := v10) (w1 := w10) (st := []) hc_9 (by decide) e10 t10 [.int x2] (fun l => zm_Mo_isIdentity l D G A F w2 a10 x2 (v10, w10) q10) (zt_V zx_766 zx_768 zs_18 zx_5 zx_769) rfl hd_Mo_isIdentity (by decide) (by decide) (by decide) (Nat.le_of_ble_eq_true rfl) rfl rfl hX dMo_join_10 ?_
    refine zg_if_eq (tgt := 35) hX dMo_join_13 rfl h (fun h => ?_) (fun h => ?_)
    · refine zg_iconst hX dMo_join_35 (-1 : Int32) (by decide) ?_
      cases h
      exact zg_iret hX hr (by decide) dMo_join_36
    · refine zg_aload_n (x := (some a0)) hX dMo_join_16 rfl ?_
      refine zg_getR (ci := 9) (k := 21) hc_9 (by decide) (by decide) hin_9 zx_641 ft_9_21 hX dMo_join_17 h (fun a17 h => ?_)
      refine zg_iload_n hX dMo_join_20 rfl ?_
      refine zg_iald (kd := 132) (by decide) (by decide) hX dMo_join_21 h (fun a21 j21 h => ?_)
      refine zg_iconst hX dMo_join_22 (4 : Int32) (by decide) ?_
      refine zg_icmp_eq (tgt := 35) hX dMo_join_23 rfl h (fun h => ?_) (fun h => ?_)
      · refine zg_iconst hX dMo_join_35 (-1 : Int32) (by decide) ?_
        cases h
        exact zg_iret hX hr (by decide) dMo_join_36
      · refine zg_aload_n (x := (some a0)) hX dMo_join_26 rfl ?_
        refine zg_iload_n hX dMo_join_27 rfl ?_
        refine zg_iload_n hX dMo_join_28 rfl ?_
        obtain ⟨a29, e29, t29, h⟩ := zf_at_e h
        obtain ⟨v29, w29, q29, h⟩ := zf_bd_e h
        refine zg_callV_i (mcy := 0) (v := v29) (w1 := w29) (st := []) hc_9 (by decide) e29 t29 [.int x1, .int x2] (fun l => zm_Mo_listensTo l D G A F w10 a29 x1 x2 (v29, w29) q29) (zt_V zx_770 zx_772 zs_19 zx_5 zx_773) rfl hd_Mo_listensTo (by decide) (by decide) (by decide) (Nat.le_of_ble_eq_true rfl) rfl rfl hX dMo_join_29 ?_
        refine zg_if_eq (tgt := 37) hX dMo_join_32 rfl h (fun h => ?_) (fun h => ?_)
        · refine zg_aload_n (x := (some a0)) hX dMo_join_37 rfl ?_
          refine zg_getR (ci := 9) (k := 20) hc_9 (by decide) (by decide) hin_9 zx_640 ft_9_20 hX dMo_join_38 h (fun a38 h => ?_)
          refine zg_iconst hX dMo_join_41 (4 : Int32) (by decide) ?_
          refine zg_iload_n hX dMo_join_42 rfl ?_
          refine zg_imul hX dMo_join_43 ?_
          refine zg_aload_n (x := (some a0)) hX dMo_join_44 rfl ?_
          refine zg_getR (ci := 9) (k := 21) hc_9 (by decide) (by decide) hin_9 zx_641 ft_9_21 hX dMo_join_45 h (fun a45 h => ?_)
          refine zg_iload_n hX dMo_join_48 rfl ?_
          refine zg_iald (kd := 132) (by decide) (by decide) hX dMo_join_49 h (fun a49 j49 h => ?_)
          refine zg_iadd hX dMo_join_50 ?_
          refine zg_iload_n hX dMo_join_51 rfl ?_
          refine zg_iast (kd := 131) (by decide) (by decide) hX dMo_join_52 h (fun w52 h => ?_)
          refine zg_aload_n (x := (some a0)) hX dMo_join_53 rfl ?_
          refine zg_getR (ci := 9) (k := 29) hc_9 (by decide) (by decide) hin_9 zx_649 ft_9_29 hX dMo_join_54 h (fun a54 h => ?_)
          refine zg_bipush hX dMo_join_57 (12 : Int32) (by decide) ?_
          refine zg_iload_n hX dMo_join_59 rfl ?_
          refine zg_imul hX dMo_join_60 ?_
          refine zg_iload_n hX dMo_join_61 rfl ?_
          refine zg_iadd hX dMo_join_62 ?_
          refine zg_iconst hX dMo_join_63 (-1 : Int32) (by decide) ?_
          refine zg_iast (kd := 138) (by decide) (by decide) hX dMo_join_64 h (fun w64 h => ?_)
          refine zg_aload_n (x := (some a0)) hX dMo_join_65 rfl ?_
          refine zg_getR (ci := 9) (k := 21) hc_9 (by decide) (by decide) hin_9 zx_641 ft_9_21 hX dMo_join_66 h (fun a66 h => ?_)
          refine zg_iload_n hX dMo_join_69 rfl ?_
          refine zg_dup2 hX dMo_join_70 rfl (zv_cat _) ?_
          refine zg_iald (kd := 132) (by decide) (by decide) hX dMo_join_71 h (fun a71 j71 h => ?_)
          refine zg_iconst hX dMo_join_72 (1 : Int32) (by decide) ?_
          refine zg_iadd hX dMo_join_73 ?_
          refine zg_iast (kd := 132) (by decide) (by decide) hX dMo_join_74 h (fun w74 h => ?_)
          refine zg_aload_n (x := (some a0)) hX dMo_join_75 rfl ?_
          refine zg_getR (ci := 9) (k := 21) hc_9 (by decide) (by decide) hin_9 zx_641 ft_9_21 hX dMo_join_76 h (fun a76 h => ?_)
          refine zg_iload_n hX dMo_join_79 rfl ?_
          refine zg_iald (kd := 132) (by decide) (by decide) hX dMo_join_80 h (fun a80 j80 h => ?_)
          cases h
          exact zg_iret hX hr (by decide) dMo_join_81
        · refine zg_iconst hX dMo_join_35 (-1 : Int32) (by decide) ?_
          cases h
          exact zg_iret hX hr (by decide) dMo_join_36
def zf_Mo_kept (F : Nat) (w : zw_T) (a0 : Nat) (x1 : Int32) : Option (Int32 × zw_T) :=
  zf_at w 10 (some a0) fun a2 =>
  zf_bd (zf_Mo_isPager F w a2 x1) fun v2 w2 =>
  if v2 = 0 then (
  some ((-1 : Int32), w2))
  else (
  zf_at w2 10 (some a0) fun a9 =>
  zf_ix w2 133 (zw_R w2 1598 a9 0) x1 fun a13 j13 =>
  some ((zw_I w2 133 a13 j13), w2))
set_option maxHeartbeats 4000000 in
set_option maxRecDepth 100000 in
theorem zm_Mo_kept (l : Launch) (D : va_G) (G : zw_G) (A : Nat → Prop) (F : Nat) (w : zw_T) (a0 : Nat) (x1 : Int32) (r : Int32 × zw_T) (h : zf_Mo_kept F w a0 x1 = some r) : zc l yMo_kept wsMo_kept 1 21 128 0 D G A [.ref a0, .int x1] w (zr_i r) := by
  refine zc_of (ret := some .int) [some (va_rf (some a0)), some (.int x1)] (plainFor_of_name (by decide +kernel)) rfl (Nat.le_of_ble_eq_true rfl) rfl rfl (fun X hX hr hm => ?_)
  unfold zf_Mo_kept at h
  refine zg_aload_n (x := (some a0)) hX dMo_kept_0 rfl ?_
  refine zg_iload_n hX dMo_kept_1 rfl ?_
  obtain ⟨a2, e2, t2, h⟩ := zf_at_e h
  obtain ⟨v2, w2, q2, h⟩ := zf_bd_e h
  refine zg_callV_i (mcy := 0) (v := v2) (w1 := w2) (st := []) hc_9 (by decide) e2 t2 [.int x1] (fun l => zm_Mo_isPager l D G A F w a2 x1 (v2, w2) q2) (zt_V zx_762 zx_764 zs_17 zx_5 zx_765) rfl hd_Mo_isPager (by decide) (by decide) (by decide) (Nat.le_of_ble_eq_true rfl) rfl rfl hX dMo_kept_2 ?_
  refine zg_if_eq (tgt := 17) hX dMo_kept_5 rfl h (fun h => ?_) (fun h => ?_)
  · refine zg_iconst hX dMo_kept_17 (-1 : Int32) (by decide) ?_
    cases h
    exact zg_iret hX hr (by decide) dMo_kept_18
  · refine zg_aload_n (x := (some a0)) hX dMo_kept_8 rfl ?_
    refine zg_getR (ci := 9) (k := 22) hc_9 (by decide) (by decide) hin_9 zx_642 ft_9_22 hX dMo_kept_9 h (fun a9 h => ?_)
    refine zg_iload_n hX dMo_kept_12 rfl ?_
    refine zg_iald (kd := 133) (by decide) (by decide) hX dMo_kept_13 h (fun a13 j13 h => ?_)
    refine zg_goto (tgt := 18) hX dMo_kept_14 rfl ?_
    cases h
    exact zg_iret hX hr (by decide) dMo_kept_18
def zf_Mo_outgoing (F : Nat) (w : zw_T) (a0 : Nat) (x1 : Int32) (x2 : Int32) : Option (Int32 × zw_T) :=
  zf_at w 10 (some a0) fun a1 =>
  zf_at w 10 (some a0) fun a5 =>
  zf_ix w 123 (zw_R w 1581 a5 0) x1 fun a9 j9 =>
  zf_ix w 121 (zw_R w 1578 a1 0) (zw_I w 123 a9 j9) fun a10 j10 =>
  if (zw_I w 121 a10 j10) = 0 then (
  if x2 = 0 then (
  zf_at w 10 (some a0) fun a19 =>
  zf_ix w 125 (zw_R w 1583 a19 0) x1 fun a23 j23 =>
  some (((zw_I w 125 a23 j23) / (10 : Int32)), w))
  else (
  if x2 = (1 : Int32) then (
  zf_at w 10 (some a0) fun a36 =>
  zf_ix w 125 (zw_R w 1583 a36 0) x1 fun a40 j40 =>
  some ((zi_rem (zw_I w 125 a40 j40) (10 : Int32)), w))
  else (
  zf_at w 10 (some a0) fun a49 =>
  zf_ix w 126 (zw_R w 1584 a49 0) x1 fun a53 j53 =>
  if ((zw_I w 126 a53 j53) + (2 : Int32)) ≤ x2 then (
  some ((12 : Int32), w))
  else (
  zf_at w 10 (some a0) fun a60 =>
  zf_ix w 127 (zw_R w 1585 a60 0) ((((20 : Int32) * x1) + x2) - (2 : Int32)) fun a71 j71 =>
  some ((zw_I w 127 a71 j71), w)))))
  else (
  if x2 = 0 then (
  zf_at w 10 (some a0) fun a85 =>
  zf_ix w 125 (zw_R w 1583 a85 0) x1 fun a89 j89 =>
  some (((32 : Int32) + (zw_I w 125 a89 j89)), w))
  else (
  zf_at w 10 (some a0) fun a96 =>
  zf_ix w 126 (zw_R w 1584 a96 0) x1 fun a100 j100 =>
  if ((zw_I w 126 a100 j100) + (1 : Int32)) ≤ x2 then (
  some ((0 : Int32), w))
  else (
  zf_at w 10 (some a0) fun a107 =>
  zf_ix w 127 (zw_R w 1585 a107 0) ((((20 : Int32) * x1) + x2) - (1 : Int32)) fun a118 j118 =>
  some ((zw_I w 127 a118 j118), w))))
set_option maxHeartbeats 4000000 in
set_option maxRecDepth 100000 in
theorem zm_Mo_outgoing (l : Launch) (D : va_G) (G : zw_G) (A : Nat → Prop) (F : Nat) (w : zw_T) (a0 : Nat) (x1 : Int32) (x2 : Int32) (r : Int32 × zw_T) (h : zf_Mo_outgoing F w a0 x1 x2 = some r) : zc l yMo_outgoing wsMo_outgoing 0 0 128 0 D G A [.ref a0, .int x1, .int x2] w (zr_i r) := by
  refine zc_of (ret := some .int) [some (va_rf (some a0)), some (.int x1), some (.int x2)] (plainFor_of_name (by decide +kernel)) rfl (Nat.le_of_ble_eq_true rfl) rfl rfl (fun X hX hr hm => ?_)
  unfold zf_Mo_outgoing at h
  refine zg_aload_n (x := (some a0)) hX dMo_outgoing_0 rfl ?_
  refine zg_getR (ci := 9) (k := 2) hc_9 (by decide) (by decide) hin_9 zx_624 ft_9_2 hX dMo_outgoing_1 h (fun a1 h => ?_)
  refine zg_aload_n (x := (some a0)) hX dMo_outgoing_4 rfl ?_
  refine zg_getR (ci := 9) (k := 5) hc_9 (by decide) (by decide) hin_9 zx_627 ft_9_5 hX dMo_outgoing_5 h (fun a5 h => ?_)
  refine zg_iload_n hX dMo_outgoing_8 rfl ?_
  refine zg_iald (kd := 123) (by decide) (by decide) hX dMo_outgoing_9 h (fun a9 j9 h => ?_)
  refine zg_iald (kd := 121) (by decide) (by decide) hX dMo_outgoing_10 h (fun a10 j10 h => ?_)
  refine zg_if_ne (tgt := 78) hX dMo_outgoing_11 rfl h (fun h => ?_) (fun h => ?_)
  · refine zg_iload_n hX dMo_outgoing_14 rfl ?_
    refine zg_if_ne (tgt := 30) hX dMo_outgoing_15 rfl h (fun h => ?_) (fun h => ?_)
    · refine zg_aload_n (x := (some a0)) hX dMo_outgoing_18 rfl ?_
      refine zg_getR (ci := 9) (k := 7) hc_9 (by decide) (by decide) hin_9 zx_629 ft_9_7 hX dMo_outgoing_19 h (fun a19 h => ?_)
      refine zg_iload_n hX dMo_outgoing_22 rfl ?_
      refine zg_iald (kd := 125) (by decide) (by decide) hX dMo_outgoing_23 h (fun a23 j23 h => ?_)
      refine zg_bipush hX dMo_outgoing_24 (10 : Int32) (by decide) ?_
      refine zg_idiv hX dMo_outgoing_26 (by decide) ?_
      refine zg_goto (tgt := 77) hX dMo_outgoing_27 rfl ?_
      cases h
      exact zg_iret hX hr (by decide) dMo_outgoing_77
    · refine zg_iload_n hX dMo_outgoing_30 rfl ?_
      refine zg_iconst hX dMo_outgoing_31 (1 : Int32) (by decide) ?_
      refine zg_icmp_ne (tgt := 47) hX dMo_outgoing_32 rfl h (fun h => ?_) (fun h => ?_)
      · refine zg_aload_n (x := (some a0)) hX dMo_outgoing_35 rfl ?_
        refine zg_getR (ci := 9) (k := 7) hc_9 (by decide) (by decide) hin_9 zx_629 ft_9_7 hX dMo_outgoing_36 h (fun a36 h => ?_)
        refine zg_iload_n hX dMo_outgoing_39 rfl ?_
        refine zg_iald (kd := 125) (by decide) (by decide) hX dMo_outgoing_40 h (fun a40 j40 h => ?_)
        refine zg_bipush hX dMo_outgoing_41 (10 : Int32) (by decide) ?_
        refine zg_irem hX dMo_outgoing_43 (by decide) ?_
        refine zg_goto (tgt := 77) hX dMo_outgoing_44 rfl ?_
        cases h
        exact zg_iret hX hr (by decide) dMo_outgoing_77
      · refine zg_iload_n hX dMo_outgoing_47 rfl ?_
        refine zg_aload_n (x := (some a0)) hX dMo_outgoing_48 rfl ?_
        refine zg_getR (ci := 9) (k := 8) hc_9 (by decide) (by decide) hin_9 zx_630 ft_9_8 hX dMo_outgoing_49 h (fun a49 h => ?_)
        refine zg_iload_n hX dMo_outgoing_52 rfl ?_
        refine zg_iald (kd := 126) (by decide) (by decide) hX dMo_outgoing_53 h (fun a53 j53 h => ?_)
        refine zg_iconst hX dMo_outgoing_54 (2 : Int32) (by decide) ?_
        refine zg_iadd hX dMo_outgoing_55 ?_
        refine zg_icmp_ge (tgt := 75) hX dMo_outgoing_56 rfl h (fun h => ?_) (fun h => ?_)
        · refine zg_bipush hX dMo_outgoing_75 (12 : Int32) (by decide) ?_
          cases h
          exact zg_iret hX hr (by decide) dMo_outgoing_77
        · refine zg_aload_n (x := (some a0)) hX dMo_outgoing_59 rfl ?_
          refine zg_getR (ci := 9) (k := 9) hc_9 (by decide) (by decide) hin_9 zx_631 ft_9_9 hX dMo_outgoing_60 h (fun a60 h => ?_)
          refine zg_bipush hX dMo_outgoing_63 (20 : Int32) (by decide) ?_
          refine zg_iload_n hX dMo_outgoing_65 rfl ?_
          refine zg_imul hX dMo_outgoing_66 ?_
          refine zg_iload_n hX dMo_outgoing_67 rfl ?_
          refine zg_iadd hX dMo_outgoing_68 ?_
          refine zg_iconst hX dMo_outgoing_69 (2 : Int32) (by decide) ?_
          refine zg_isub hX dMo_outgoing_70 ?_
          refine zg_iald (kd := 127) (by decide) (by decide) hX dMo_outgoing_71 h (fun a71 j71 h => ?_)
          refine zg_goto (tgt := 77) hX dMo_outgoing_72 rfl ?_
          cases h
          exact zg_iret hX hr (by decide) dMo_outgoing_77
  · refine zg_iload_n hX dMo_outgoing_78 rfl ?_
    refine zg_if_ne (tgt := 94) hX dMo_outgoing_79 rfl h (fun h => ?_) (fun h => ?_)
    · refine zg_bipush hX dMo_outgoing_82 (32 : Int32) (by decide) ?_
      refine zg_aload_n (x := (some a0)) hX dMo_outgoing_84 rfl ?_
      refine zg_getR (ci := 9) (k := 7) hc_9 (by decide) (by decide) hin_9 zx_629 ft_9_7 hX dMo_outgoing_85 h (fun a85 h => ?_)
      refine zg_iload_n hX dMo_outgoing_88 rfl ?_
      refine zg_iald (kd := 125) (by decide) (by decide) hX dMo_outgoing_89 h (fun a89 j89 h => ?_)
      refine zg_iadd hX dMo_outgoing_90 ?_
      refine zg_goto (tgt := 123) hX dMo_outgoing_91 rfl ?_
      cases h
      exact zg_iret hX hr (by decide) dMo_outgoing_123
    · refine zg_iload_n hX dMo_outgoing_94 rfl ?_
      refine zg_aload_n (x := (some a0)) hX dMo_outgoing_95 rfl ?_
      refine zg_getR (ci := 9) (k := 8) hc_9 (by decide) (by decide) hin_9 zx_630 ft_9_8 hX dMo_outgoing_96 h (fun a96 h => ?_)
      refine zg_iload_n hX dMo_outgoing_99 rfl ?_
      refine zg_iald (kd := 126) (by decide) (by decide) hX dMo_outgoing_100 h (fun a100 j100 h => ?_)
      refine zg_iconst hX dMo_outgoing_101 (1 : Int32) (by decide) ?_
      refine zg_iadd hX dMo_outgoing_102 ?_
      refine zg_icmp_ge (tgt := 122) hX dMo_outgoing_103 rfl h (fun h => ?_) (fun h => ?_)
      · refine zg_iconst hX dMo_outgoing_122 (0 : Int32) (by decide) ?_
        cases h
        exact zg_iret hX hr (by decide) dMo_outgoing_123
      · refine zg_aload_n (x := (some a0)) hX dMo_outgoing_106 rfl ?_
        refine zg_getR (ci := 9) (k := 9) hc_9 (by decide) (by decide) hin_9 zx_631 ft_9_9 hX dMo_outgoing_107 h (fun a107 h => ?_)
        refine zg_bipush hX dMo_outgoing_110 (20 : Int32) (by decide) ?_
        refine zg_iload_n hX dMo_outgoing_112 rfl ?_
        refine zg_imul hX dMo_outgoing_113 ?_
        refine zg_iload_n hX dMo_outgoing_114 rfl ?_
        refine zg_iadd hX dMo_outgoing_115 ?_
        refine zg_iconst hX dMo_outgoing_116 (1 : Int32) (by decide) ?_
        refine zg_isub hX dMo_outgoing_117 ?_
        refine zg_iald (kd := 127) (by decide) (by decide) hX dMo_outgoing_118 h (fun a118 j118 h => ?_)
        refine zg_goto (tgt := 123) hX dMo_outgoing_119 rfl ?_
        cases h
        exact zg_iret hX hr (by decide) dMo_outgoing_123
def zf_Mo_outBit_j20 (F : Nat) (w : zw_T) (a0 : Nat) (x1 : Int32) (x2 : Int32) (s0 : Int32) : Option (Int32 × zw_T) :=
  zf_let s0 fun y20 =>
  zf_nz y20 (
  zf_at w 10 (some a0) fun a26 =>
  zf_bd (zf_Mo_outgoing F w a26 x1 (x2 / y20)) fun v26 w26 =>
  zf_nz y20 (
  some (((zi_shr v26 (zi_rem x2 y20)) &&& (1 : Int32)), w26)))
def zf_Mo_outBit (F : Nat) (w : zw_T) (a0 : Nat) (x1 : Int32) (x2 : Int32) : Option (Int32 × zw_T) :=
  zf_at w 10 (some a0) fun a1 =>
  zf_at w 10 (some a0) fun a5 =>
  zf_ix w 123 (zw_R w 1581 a5 0) x1 fun a9 j9 =>
  zf_ix w 121 (zw_R w 1578 a1 0) (zw_I w 123 a9 j9) fun a10 j10 =>
  if (zw_I w 121 a10 j10) = 0 then (
  zf_Mo_outBit_j20 F w a0 x1 x2 (4 : Int32))
  else (
  zf_Mo_outBit_j20 F w a0 x1 x2 (7 : Int32))
set_option maxHeartbeats 4000000 in
set_option maxRecDepth 100000 in
theorem zm_Mo_outBit_j20 {X : zg_X} {D : va_G} {G : zw_G} {A : Nat → Prop} {F : Nat} {r : Int32 × zw_T} (hX : zg_ok X cMo_outBit RMo 4 1 22 128 0 D G A) (hr : zg_rt X = some .int) (hm : zg_nm X = yMo_outBit.name) (w : zw_T) (a0 : Nat) (x1 : Int32) (x2 : Int32) (s0 : Int32) (h : zf_Mo_outBit_j20 F w a0 x1 x2 s0 = some r) : zg X D G A (zg_Q X D G A 128 0 (zr_i r)) 128 0 w 20 [some (va_rf (some a0)), some (.int x1), some (.int x2), none] [.int s0] := by
  unfold zf_Mo_outBit_j20 at h
  refine zg_istore_n hX dMo_outBit_20 (Nat.le_of_ble_eq_true rfl) rfl h (fun y20 h => ?_)
  refine zg_aload_n (x := (some a0)) hX dMo_outBit_21 rfl ?_
  refine zg_iload_n hX dMo_outBit_22 rfl ?_
  refine zg_iload_n hX dMo_outBit_23 rfl ?_
  refine zg_iload_n hX dMo_outBit_24 rfl ?_
  obtain ⟨hz25, h⟩ := zf_nz_e h
  refine zg_idiv hX dMo_outBit_25 hz25 ?_
  obtain ⟨a26, e26, t26, h⟩ := zf_at_e h
  obtain ⟨v26, w26, q26, h⟩ := zf_bd_e h
  refine zg_callV_i (mcy := 0) (v := v26) (w1 := w26) (st := []) hc_9 (by decide) e26 t26 [.int x1, .int (x2 / y20)] (fun l => zm_Mo_outgoing l D G A F w a26 x1 (x2 / y20) (v26, w26) q26) (zt_V zx_822 zx_824 zs_26 zx_5 zx_825) rfl hd_Mo_outgoing (by decide) (by decide) (by decide) (Nat.le_of_ble_eq_true rfl) rfl rfl hX dMo_outBit_26 ?_
  refine zg_iload_n hX dMo_outBit_29 rfl ?_
  refine zg_iload_n hX dMo_outBit_30 rfl ?_
  obtain ⟨hz31, h⟩ := zf_nz_e h
  refine zg_irem hX dMo_outBit_31 hz31 ?_
  refine zg_ishr hX dMo_outBit_32 ?_
  refine zg_iconst hX dMo_outBit_33 (1 : Int32) (by decide) ?_
  refine zg_iand hX dMo_outBit_34 ?_
  cases h
  exact zg_iret hX hr (by decide) dMo_outBit_35
set_option maxHeartbeats 4000000 in
set_option maxRecDepth 100000 in
theorem zm_Mo_outBit (l : Launch) (D : va_G) (G : zw_G) (A : Nat → Prop) (F : Nat) (w : zw_T) (a0 : Nat) (x1 : Int32) (x2 : Int32) (r : Int32 × zw_T) (h : zf_Mo_outBit F w a0 x1 x2 = some r) : zc l yMo_outBit wsMo_outBit 1 22 128 0 D G A [.ref a0, .int x1, .int x2] w (zr_i r) := by
  refine zc_of (ret := some .int) [some (va_rf (some a0)), some (.int x1), some (.int x2), none] (plainFor_of_name (by decide +kernel)) rfl (Nat.le_of_ble_eq_true rfl) rfl rfl (fun X hX hr hm => ?_)
  unfold zf_Mo_outBit at h
  refine zg_aload_n (x := (some a0)) hX dMo_outBit_0 rfl ?_
  refine zg_getR (ci := 9) (k := 2) hc_9 (by decide) (by decide) hin_9 zx_624 ft_9_2 hX dMo_outBit_1 h (fun a1 h => ?_)
  refine zg_aload_n (x := (some a0)) hX dMo_outBit_4 rfl ?_
  refine zg_getR (ci := 9) (k := 5) hc_9 (by decide) (by decide) hin_9 zx_627 ft_9_5 hX dMo_outBit_5 h (fun a5 h => ?_)
  refine zg_iload_n hX dMo_outBit_8 rfl ?_
  refine zg_iald (kd := 123) (by decide) (by decide) hX dMo_outBit_9 h (fun a9 j9 h => ?_)
  refine zg_iald (kd := 121) (by decide) (by decide) hX dMo_outBit_10 h (fun a10 j10 h => ?_)
  refine zg_if_ne (tgt := 18) hX dMo_outBit_11 rfl h (fun h => ?_) (fun h => ?_)
  · refine zg_iconst hX dMo_outBit_14 (4 : Int32) (by decide) ?_
    refine zg_goto (tgt := 20) hX dMo_outBit_15 rfl ?_
    exact zg_sub (zl_k (zl_k (zl_k (zl_d zl_n)))) (zm_Mo_outBit_j20 hX hr hm w a0 x1 x2 (4 : Int32) h)
  · refine zg_bipush hX dMo_outBit_18 (7 : Int32) (by decide) ?_
    exact zg_sub (zl_k (zl_k (zl_k (zl_d zl_n)))) (zm_Mo_outBit_j20 hX hr hm w a0 x1 x2 (7 : Int32) h)
