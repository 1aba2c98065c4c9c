def zf_WP_desk_j88 (F : Nat) (k22 : zw_T → Nat → Int32 → Int32 → (Option Nat) → Int32 → Option (Int32 × zw_T)) (w : zw_T) (a0 : Nat) (x2 : Int32) (x3 : Int32) (o4 : Option Nat) (x5 : Int32) : Option (Int32 × zw_T) :=
  zf_let (x5 + (-1 : Int32)) fun y88 =>
  k22 w a0 x2 x3 o4 y88
def zf_WP_desk_L22 (F : Nat) : Nat → zw_T → Nat → Int32 → Int32 → (Option Nat) → Int32 → Option (Int32 × zw_T)
  | 0, _, _, _, _, _, _ => none
  | n + 1, w, a0, x2, x3, o4, x5 =>
  if x5 < 0 then (
  some ((-1 : Int32), w))
  else (
  zf_at w 9 (some a0) fun a28 =>
  zf_ix w 405 (zw_R w 1516 a28 0) x5 fun a33 j33 =>
  zf_at w 6 (zw_R w 405 a33 j33) fun a34 =>
  if (zw_R w 1320 a34 0) = o4 then (
  zf_at w 9 (some a0) fun a43 =>
  zf_ix w 405 (zw_R w 1516 a43 0) x5 fun a48 j48 =>
  zf_at w 6 (zw_R w 405 a48 j48) fun a49 =>
  if (zw_I w 1322 a49 0) = x2 then (
  zf_at w 9 (some a0) fun a57 =>
  zf_ix w 405 (zw_R w 1516 a57 0) x5 fun a62 j62 =>
  zf_at w 6 (zw_R w 405 a62 j62) fun a63 =>
  zf_let (zw_R w 1323 a63 0) fun y66 =>
  if x3 < 0 then (
  some ((-1 : Int32), w))
  else (
  zf_at w 105 y66 fun a75 =>
  if (nI (zw_ty w a75).2) ≤ x3 then (
  some ((-1 : Int32), w))
  else (
  zf_ix w 105 y66 x3 fun a82 j82 =>
  some ((zw_I w 105 a82 j82), w))))
  else (
  zf_WP_desk_j88 F (zf_WP_desk_L22 F n) w a0 x2 x3 o4 x5))
  else (
  zf_WP_desk_j88 F (zf_WP_desk_L22 F n) w a0 x2 x3 o4 x5))
def zf_WP_desk (F : Nat) (w : zw_T) (a0 : Nat) (x1 : Int32) (x2 : Int32) (x3 : Int32) : Option (Int32 × zw_T) :=
  zf_at w 9 (some a0) fun a2 =>
  zf_bd (zf_WP_identityAt F w a2 x1) fun v2 w2 =>
  zf_let v2 fun y5 =>
  if y5 = none then (
  some ((-1 : Int32), w2))
  else (
  zf_at w2 9 (some a0) fun a15 =>
  zf_let ((zw_I w2 1517 a15 0) - (1 : Int32)) fun y20 =>
  zf_WP_desk_L22 F F w2 a0 x2 x3 y5 y20)
set_option maxHeartbeats 4000000 in
set_option maxRecDepth 100000 in
theorem zm_WP_desk_j88 {X : zg_X} {D : va_G} {G : zw_G} {A : Nat → Prop} {F : Nat} {k22 : zw_T → Nat → Int32 → Int32 → (Option Nat) → Int32 → Option (Int32 × zw_T)} {r : Int32 × zw_T} (hX : zg_ok X cWP_desk RWP 7 1 21 128 0 D G A) (hr : zg_rt X = some .int) (hm : zg_nm X = yWP_desk.name) (hk22 : ∀ (w : zw_T) (a0 : Nat) (x2 : Int32) (x3 : Int32) (o4 : Option Nat) (x5 : Int32), k22 w a0 x2 x3 o4 x5 = some r → zg X D G A (zg_Q X D G A 128 0 (zr_i r)) 128 0 w 22 [some (va_rf (some a0)), none, some (.int x2), some (.int x3), some (va_rf o4), some (.int x5), none] []) (w : zw_T) (a0 : Nat) (x2 : Int32) (x3 : Int32) (o4 : Option Nat) (x5 : Int32) (h : zf_WP_desk_j88 F k22 w a0 x2 x3 o4 x5 = some r) : zg X D G A (zg_Q X D G A 128 0 (zr_i r)) 128 0 w 88 [some (va_rf (some a0)), none, some (.int x2), some (.int x3), some (va_rf o4), some (.int x5), none] [] := by
  unfold zf_WP_desk_j88 at h
  refine zg_iinc hX dWP_desk_88 (-1 : Int32) rfl (by decide) (Nat.le_of_ble_eq_true rfl) (zl_fq 4 rfl) h (fun y88 h => ?_)
  refine zg_goto (tgt := 22) hX dWP_desk_91 rfl ?_
  exact zg_sub (zl_k (zl_d (zl_k (zl_k (zl_k (zl_k (zl_d zl_n))))))) (hk22 w a0 x2 x3 o4 y88 h)
set_option maxHeartbeats 4000000 in
set_option maxRecDepth 100000 in
theorem zm_WP_desk_L22 {X : zg_X} {D : va_G} {G : zw_G} {A : Nat → Prop} {F : Nat} {r : Int32 × zw_T} (hX : zg_ok X cWP_desk RWP 7 1 21 128 0 D G A) (hr : zg_rt X = some .int) (hm : zg_nm X = yWP_desk.name) : ∀ (n : Nat) (w : zw_T) (a0 : Nat) (x2 : Int32) (x3 : Int32) (o4 : Option Nat) (x5 : Int32), zf_WP_desk_L22 F n w a0 x2 x3 o4 x5 = some r → zg X D G A (zg_Q X D G A 128 0 (zr_i r)) 128 0 w 22 [some (va_rf (some a0)), none, some (.int x2), some (.int x3), some (va_rf o4), some (.int x5), none] [] := by
  intro n
  induction n with
  | zero =>
    intro w a0 x2 x3 o4 x5 h
    unfold zf_WP_desk_L22 at h
    cases h
  | succ n ih =>
    intro w a0 x2 x3 o4 x5 h
    rw [zf_WP_desk_L22] at h
    refine zg_iload hX dWP_desk_22 rfl ?_
    refine zg_if_lt (tgt := 94) hX dWP_desk_24 rfl h (fun h => ?_) (fun h => ?_)
    · refine zg_iconst hX dWP_desk_94 (-1 : Int32) (by decide) ?_
      cases h
      exact zg_iret hX hr (by decide) dWP_desk_95
    · refine zg_aload_n (x := (some a0)) hX dWP_desk_27 rfl ?_
      refine zg_getR (ci := 8) (k := 4) hc_8 (by decide) (by decide) hin_8 zx_95 ft_8_4 hX dWP_desk_28 h (fun a28 h => ?_)
      refine zg_iload hX dWP_desk_31 rfl ?_
      refine zg_aald (ci := 5) (t0 := 5) rfl hX dWP_desk_33 h (fun a33 j33 h => ?_)
      refine zg_getR (ci := 5) (k := 0) hc_5 (by decide) (by decide) hin_5 zx_408 ft_5_0 hX dWP_desk_34 h (fun a34 h => ?_)
      refine zg_aload (x := o4) hX dWP_desk_37 rfl ?_
      refine zg_acmp_ne (tgt := 88) hX dWP_desk_39 rfl h (fun h => ?_) (fun h => ?_)
      · refine zg_aload_n (x := (some a0)) hX dWP_desk_42 rfl ?_
        refine zg_getR (ci := 8) (k := 4) hc_8 (by decide) (by decide) hin_8 zx_95 ft_8_4 hX dWP_desk_43 h (fun a43 h => ?_)
        refine zg_iload hX dWP_desk_46 rfl ?_
        refine zg_aald (ci := 5) (t0 := 5) rfl hX dWP_desk_48 h (fun a48 j48 h => ?_)
        refine zg_getI (ci := 5) (k := 2) hc_5 (by decide) (by decide) hin_5 zx_412 ft_5_2 hX dWP_desk_49 h (fun a49 h => ?_)
        refine zg_iload_n hX dWP_desk_52 rfl ?_
        refine zg_icmp_ne (tgt := 88) hX dWP_desk_53 rfl h (fun h => ?_) (fun h => ?_)
        · refine zg_aload_n (x := (some a0)) hX dWP_desk_56 rfl ?_
          refine zg_getR (ci := 8) (k := 4) hc_8 (by decide) (by decide) hin_8 zx_95 ft_8_4 hX dWP_desk_57 h (fun a57 h => ?_)
          refine zg_iload hX dWP_desk_60 rfl ?_
          refine zg_aald (ci := 5) (t0 := 5) rfl hX dWP_desk_62 h (fun a62 j62 h => ?_)
          refine zg_getR (ci := 5) (k := 3) hc_5 (by decide) (by decide) hin_5 zx_414 ft_5_3 hX dWP_desk_63 h (fun a63 h => ?_)
          refine zg_astore hX dWP_desk_66 (Nat.le_of_ble_eq_true rfl) rfl h (fun y66 h => ?_)
          refine zg_iload_n hX dWP_desk_68 rfl ?_
          refine zg_if_lt (tgt := 86) hX dWP_desk_69 rfl h (fun h => ?_) (fun h => ?_)
          · refine zg_iconst hX dWP_desk_86 (-1 : Int32) (by decide) ?_
            cases h
            exact zg_iret hX hr (by decide) dWP_desk_87
          · refine zg_iload_n hX dWP_desk_72 rfl ?_
            refine zg_aload (x := y66) hX dWP_desk_73 rfl ?_
            refine zg_leni (kd := 105) (by decide) (by decide) hX dWP_desk_75 h (fun a75 h => ?_)
            refine zg_icmp_ge (tgt := 86) hX dWP_desk_76 rfl h (fun h => ?_) (fun h => ?_)
            · refine zg_iconst hX dWP_desk_86 (-1 : Int32) (by decide) ?_
              cases h
              exact zg_iret hX hr (by decide) dWP_desk_87
            · refine zg_aload (x := y66) hX dWP_desk_79 rfl ?_
              refine zg_iload_n hX dWP_desk_81 rfl ?_
              refine zg_iald (kd := 105) (by decide) (by decide) hX dWP_desk_82 h (fun a82 j82 h => ?_)
              refine zg_goto (tgt := 87) hX dWP_desk_83 rfl ?_
              cases h
              exact zg_iret hX hr (by decide) dWP_desk_87
        · exact zg_sub (zl_k (zl_d (zl_k (zl_k (zl_k (zl_k (zl_d zl_n))))))) (zm_WP_desk_j88 hX hr hm ih w a0 x2 x3 o4 x5 h)
      · exact zg_sub (zl_k (zl_d (zl_k (zl_k (zl_k (zl_k (zl_d zl_n))))))) (zm_WP_desk_j88 hX hr hm ih w a0 x2 x3 o4 x5 h)
set_option maxHeartbeats 4000000 in
set_option maxRecDepth 100000 in
theorem zm_WP_desk (l : Launch) (D : va_G) (G : zw_G) (A : Nat → Prop) (F : Nat) (w : zw_T) (a0 : Nat) (x1 : Int32) (x2 : Int32) (x3 : Int32) (r : Int32 × zw_T) (h : zf_WP_desk F w a0 x1 x2 x3 = some r) : zc l yWP_desk wsWP_desk 1 21 128 0 D G A [.ref a0, .int x1, .int x2, .int x3] w (zr_i r) := by
  refine zc_of (ret := some .int) [some (va_rf (some a0)), some (.int x1), some (.int x2), some (.int x3), none, none, none] (plainFor_of_name (by decide +kernel)) rfl (Nat.le_of_ble_eq_true rfl) rfl rfl (fun X hX hr hm => ?_)
  unfold zf_WP_desk at h
  refine zg_aload_n (x := (some a0)) hX dWP_desk_0 rfl ?_
  refine zg_iload_n hX dWP_desk_1 rfl ?_
  obtain ⟨a2, e2, t2, h⟩ := zf_at_e h
  obtain ⟨v2, w2, q2, h⟩ := zf_bd_e h
  refine zg_callV_r (mcy := 0) (v := v2) (w1 := w2) (st := []) hc_8 (by decide) e2 t2 [.int x1] (fun l => zm_WP_identityAt l D G A F w a2 x1 (v2, w2) q2) (zt_V zx_320 zx_322 zs_2 zx_1 zx_323) rfl hd_WP_identityAt (by decide) (by decide) (by decide) (Nat.le_of_ble_eq_true rfl) rfl rfl hX dWP_desk_2 ?_
  refine zg_astore hX dWP_desk_5 (Nat.le_of_ble_eq_true rfl) rfl h (fun y5 h => ?_)
  refine zg_aload (x := y5) hX dWP_desk_7 rfl ?_
  refine zg_ifnonnull (tgt := 14) hX dWP_desk_9 rfl h (fun h => ?_) (fun h => ?_)
  · refine zg_iconst hX dWP_desk_12 (-1 : Int32) (by decide) ?_
    cases h
    exact zg_iret hX hr (by decide) dWP_desk_13
  · refine zg_aload_n (x := (some a0)) hX dWP_desk_14 rfl ?_
    refine zg_getI (ci := 8) (k := 5) hc_8 (by decide) (by decide) hin_8 zx_96 ft_8_5 hX dWP_desk_15 h (fun a15 h => ?_)
    refine zg_iconst hX dWP_desk_18 (1 : Int32) (by decide) ?_
    refine zg_isub hX dWP_desk_19 ?_
    refine zg_istore hX dWP_desk_20 (Nat.le_of_ble_eq_true rfl) (zl_fq 4 rfl) h (fun y20 h => ?_)
    exact zg_sub (zl_k (zl_d (zl_k (zl_k (zl_k (zl_k (zl_d zl_n))))))) (zm_WP_desk_L22 hX hr hm F w2 a0 x2 x3 y5 y20 h)
def zf_Ai_changeBit (F : Nat) (w : zw_T) (a0 : Nat) (x1 : Int32) : Option (zw_T) :=
  zf_at w 1 (some a0) fun a1 =>
  zf_ix w 102 (zw_R w 1000 a1 0) (x1 / (32 : Int32)) fun a9 j9 =>
  zf_ix w 102 (zw_R w 1000 a1 0) (x1 / (32 : Int32)) fun a20 j20 => zf_let (zw_sI w 102 a20 j20 ((zw_I w 102 a9 j9) ^^^ (zi_shl (1 : Int32) ((31 : Int32) - (zi_rem x1 (32 : Int32)))))) fun w20 =>
  some w20
set_option maxHeartbeats 4000000 in
set_option maxRecDepth 100000 in
theorem zm_Ai_changeBit (l : Launch) (D : va_G) (G : zw_G) (A : Nat → Prop) (F : Nat) (w : zw_T) (a0 : Nat) (x1 : Int32) (r : zw_T) (h : zf_Ai_changeBit F w a0 x1 = some r) : zc l yAi_changeBit wsAi_changeBit 0 0 128 0 D G A [.ref a0, .int x1] w (zr_v r) := by
  refine zc_of (ret := none) [some (va_rf (some a0)), some (.int x1)] (plainFor_of_name (by decide +kernel)) rfl (Nat.le_of_ble_eq_true rfl) rfl rfl (fun X hX hr hm => ?_)
  unfold zf_Ai_changeBit at h
  refine zg_aload_n (x := (some a0)) hX dAi_changeBit_0 rfl ?_
  refine zg_getR (ci := 0) (k := 0) hc_0 (by decide) (by decide) hin_0 zx_51 ft_0_0 hX dAi_changeBit_1 h (fun a1 h => ?_)
  refine zg_iload_n hX dAi_changeBit_4 rfl ?_
  refine zg_bipush hX dAi_changeBit_5 (32 : Int32) (by decide) ?_
  refine zg_idiv hX dAi_changeBit_7 (by decide) ?_
  refine zg_dup2 hX dAi_changeBit_8 rfl (zv_cat _) ?_
  refine zg_iald (kd := 102) (by decide) (by decide) hX dAi_changeBit_9 h (fun a9 j9 h => ?_)
  refine zg_iconst hX dAi_changeBit_10 (1 : Int32) (by decide) ?_
  refine zg_bipush hX dAi_changeBit_11 (31 : Int32) (by decide) ?_
  refine zg_iload_n hX dAi_changeBit_13 rfl ?_
  refine zg_bipush hX dAi_changeBit_14 (32 : Int32) (by decide) ?_
  refine zg_irem hX dAi_changeBit_16 (by decide) ?_
  refine zg_isub hX dAi_changeBit_17 ?_
  refine zg_ishl hX dAi_changeBit_18 ?_
  refine zg_ixor hX dAi_changeBit_19 ?_
  refine zg_iast (kd := 102) (by decide) (by decide) hX dAi_changeBit_20 h (fun w20 h => ?_)
  cases h
  exact zg_vret hX hr (by decide) dAi_changeBit_21
def zf_WP_flip (F : Nat) (w : zw_T) (a0 : Nat) (x1 : Int32) : Option (Int32 × zw_T) :=
  zf_at w 9 (some a0) fun a1 =>
  zf_at w 1 (zw_R w 1522 a1 0) fun a5 =>
  zf_bd (zf_Ai_hasBit F w a5 x1) fun v5 w5 =>
  if v5 = 0 then (
  some ((-1 : Int32), w5))
  else (
  zf_at w5 9 (some a0) fun a14 =>
  zf_at w5 1 (zw_R w5 1522 a14 0) fun a18 =>
  zf_bv (zf_Ai_changeBit F w5 a18 x1) fun w18 =>
  zf_at w18 9 (some a0) fun a22 =>
  zf_at w18 1 (zw_R w18 1522 a22 0) fun a26 =>
  zf_bd (zf_Ai_bitAt F w18 a26 x1) fun v26 w26 =>
  some (v26, w26))
set_option maxHeartbeats 4000000 in
set_option maxRecDepth 100000 in
theorem zm_WP_flip (l : Launch) (D : va_G) (G : zw_G) (A : Nat → Prop) (F : Nat) (w : zw_T) (a0 : Nat) (x1 : Int32) (r : Int32 × zw_T) (h : zf_WP_flip F w a0 x1 = some r) : zc l yWP_flip wsWP_flip 1 21 128 0 D G A [.ref a0, .int x1] w (zr_i r) := by
  refine zc_of (ret := some .int) [some (va_rf (some a0)), some (.int x1)] (plainFor_of_name (by decide +kernel)) rfl (Nat.le_of_ble_eq_true rfl) rfl rfl (fun X hX hr hm => ?_)
  unfold zf_WP_flip at h
  refine zg_aload_n (x := (some a0)) hX dWP_flip_0 rfl ?_
  refine zg_getR (ci := 8) (k := 10) hc_8 (by decide) (by decide) hin_8 zx_101 ft_8_10 hX dWP_flip_1 h (fun a1 h => ?_)
  refine zg_iload_n hX dWP_flip_4 rfl ?_
  obtain ⟨a5, e5, t5, h⟩ := zf_at_e h
  obtain ⟨v5, w5, q5, h⟩ := zf_bd_e h
  refine zg_callV_i (mcy := 0) (v := v5) (w1 := w5) (st := []) hc_0 (by decide) e5 t5 [.int x1] (fun l => zm_Ai_hasBit l D G A F w a5 x1 (v5, w5) q5) (zt_V zx_476 zx_477 zx_478 zx_3 zx_479) rfl hd_Ai_hasBit (by decide) (by decide) (by decide) (Nat.le_of_ble_eq_true rfl) rfl rfl hX dWP_flip_5 ?_
  refine zg_if_ne (tgt := 13) hX dWP_flip_8 rfl h (fun h => ?_) (fun h => ?_)
  · refine zg_iconst hX dWP_flip_11 (-1 : Int32) (by decide) ?_
    cases h
    exact zg_iret hX hr (by decide) dWP_flip_12
  · refine zg_aload_n (x := (some a0)) hX dWP_flip_13 rfl ?_
    refine zg_getR (ci := 8) (k := 10) hc_8 (by decide) (by decide) hin_8 zx_101 ft_8_10 hX dWP_flip_14 h (fun a14 h => ?_)
    refine zg_iload_n hX dWP_flip_17 rfl ?_
    obtain ⟨a18, e18, t18, h⟩ := zf_at_e h
    obtain ⟨w18, q18, h⟩ := zf_bv_e h
    refine zg_callV_v (mcy := 0) (w1 := w18) (st := []) hc_0 (by decide) e18 t18 [.int x1] (fun l => zm_Ai_changeBit l D G A F w5 a18 x1 w18 q18) (zt_V zx_488 zx_489 zx_490 zx_3 zx_491) rfl hd_Ai_changeBit (by decide) (by decide) (by decide) (Nat.le_of_ble_eq_true rfl) rfl rfl hX dWP_flip_18 ?_
    refine zg_aload_n (x := (some a0)) hX dWP_flip_21 rfl ?_
    refine zg_getR (ci := 8) (k := 10) hc_8 (by decide) (by decide) hin_8 zx_101 ft_8_10 hX dWP_flip_22 h (fun a22 h => ?_)
    refine zg_iload_n hX dWP_flip_25 rfl ?_
    obtain ⟨a26, e26, t26, h⟩ := zf_at_e h
    obtain ⟨v26, w26, q26, h⟩ := zf_bd_e h
    refine zg_callV_i (mcy := 0) (v := v26) (w1 := w26) (st := []) hc_0 (by decide) e26 t26 [.int x1] (fun l => zm_Ai_bitAt l D G A F w18 a26 x1 (v26, w26) q26) (zt_V zx_480 zx_481 zx_482 zx_3 zx_483) rfl hd_Ai_bitAt (by decide) (by decide) (by decide) (Nat.le_of_ble_eq_true rfl) rfl rfl hX dWP_flip_26 ?_
    cases h
    exact zg_iret hX hr (by decide) dWP_flip_29
def zf_WP_isSync (F : Nat) (w : zw_T) (x0 : Int32) : Option (Int32 × zw_T) :=
  zf_bd (zf_In_bitCount F w (x0 ^^^ (2094142936 : Int32))) fun v4 w4 =>
  if (2 : Int32) < v4 then (
  zf_b (0 : Int32) (some ((0 : Int32), w4)))
  else (
  zf_b (1 : Int32) (some ((1 : Int32), w4)))
set_option maxHeartbeats 4000000 in
set_option maxRecDepth 100000 in
theorem zm_WP_isSync (l : Launch) (D : va_G) (G : zw_G) (A : Nat → Prop) (F : Nat) (w : zw_T) (x0 : Int32) (r : Int32 × zw_T) (h : zf_WP_isSync F w x0 = some r) : zc l yWP_isSync wsWP_isSync 1 20 128 0 D G A [.int x0] w (zr_i r) := by
  refine zc_of (ret := some .boolean) [some (.int x0)] (plainFor_of_name (by decide +kernel)) rfl (Nat.le_of_ble_eq_true rfl) rfl rfl (fun X hX hr hm => ?_)
  unfold zf_WP_isSync at h
  refine zg_iload_n hX dWP_isSync_0 rfl ?_
  refine zg_ldc hX dWP_isSync_1 (2094142936 : Int32) zx_508 ?_
  refine zg_ixor hX dWP_isSync_3 ?_
  obtain ⟨v4, w4, q4, h⟩ := zf_bd_e h
  refine zg_callS_i (mcy := 0) (v := v4) (w1 := w4) (st := []) [.int (x0 ^^^ (2094142936 : Int32))] (fun l => zm_In_bitCount l D G A F w (x0 ^^^ (2094142936 : Int32)) (v4, w4) q4) (zt_S zx_139 zx_140 zx_7 zx_141) rfl hd_In_bitCount (by decide) (by decide) (by decide) (Nat.le_of_ble_eq_true rfl) rfl rfl hX dWP_isSync_4 ?_
  refine zg_iconst hX dWP_isSync_7 (2 : Int32) (by decide) ?_
  refine zg_icmp_gt (tgt := 15) hX dWP_isSync_8 rfl h (fun h => ?_) (fun h => ?_)
  · refine zg_iconst hX dWP_isSync_15 (0 : Int32) (by decide) ?_
    obtain ⟨hb16, h⟩ := zf_b_e h
    cases h
    exact zg_zret hX hr (zf_b_n hb16).1 (by decide) dWP_isSync_16
  · refine zg_iconst hX dWP_isSync_11 (1 : Int32) (by decide) ?_
    refine zg_goto (tgt := 16) hX dWP_isSync_12 rfl ?_
    obtain ⟨hb16, h⟩ := zf_b_e h
    cases h
    exact zg_zret hX hr (zf_b_n hb16).1 (by decide) dWP_isSync_16
def zf_Ls_hunt_j60 (F : Nat) (k4 : zw_T → Nat → Int32 → Int32 → Int32 → Option (Int32 × zw_T)) (w : zw_T) (a0 : Nat) (x1 : Int32) (x2 : Int32) (x3 : Int32) : Option (Int32 × zw_T) :=
  zf_let (x3 + (1 : Int32)) fun y60 =>
  k4 w a0 x1 x2 y60
def zf_Ls_hunt_L4 (F : Nat) : Nat → zw_T → Nat → Int32 → Int32 → Int32 → Option (Int32 × zw_T)
  | 0, _, _, _, _, _ => none
  | n + 1, w, a0, x1, x2, x3 =>
  zf_at w 5 (some a0) fun a6 =>
  zf_at w 1 (zw_R w 1256 a6 0) fun a9 =>
  if (zw_I w 1001 a9 0) ≤ x3 then (
  zf_at w 5 (some a0) fun a67 =>
  zf_at w 1 (zw_R w 1256 a67 0) fun a70 =>
  some ((zw_I w 1001 a70 0), w))
  else (
  zf_at w 5 (some a0) fun a19 =>
  zf_at w 1 (zw_R w 1256 a19 0) fun a23 =>
  zf_bd (zf_Ai_bitAt F w a23 x3) fun v23 w23 =>
  zf_let ((zi_shl x2 (1 : Int32)) ||| v23) fun y27 =>
  zf_at w23 5 (some a0) fun a29 =>
  zf_at w23 7 (zw_R w23 1257 a29 0) fun a33 =>
  zf_at w23 7 (zw_R w23 1257 a29 0) fun a38 => zf_let (zw_sI w23 1389 a38 0 ((zw_I w23 1389 a33 0) + (1 : Int32))) fun w38 =>
  if (x3 - x1) < (31 : Int32) then (
  zf_Ls_hunt_j60 F (zf_Ls_hunt_L4 F n) w38 a0 x1 y27 x3)
  else (
  zf_bd (zf_WP_isSync F w38 y27) fun v50 w50 =>
  if v50 = 0 then (
  zf_Ls_hunt_j60 F (zf_Ls_hunt_L4 F n) w50 a0 x1 y27 x3)
  else (
  some ((x3 + (1 : Int32)), w50))))
def zf_Ls_hunt (F : Nat) (w : zw_T) (a0 : Nat) (x1 : Int32) : Option (Int32 × zw_T) :=
  zf_let (0 : Int32) fun y1 =>
  zf_let x1 fun y3 =>
  zf_Ls_hunt_L4 F F w a0 x1 y1 y3
set_option maxHeartbeats 4000000 in
set_option maxRecDepth 100000 in
theorem zm_Ls_hunt_j60 {X : zg_X} {D : va_G} {G : zw_G} {A : Nat → Prop} {F : Nat} {k4 : zw_T → Nat → Int32 → Int32 → Int32 → Option (Int32 × zw_T)} {r : Int32 × zw_T} (hX : zg_ok X cLs_hunt RLs 4 2 40 128 0 D G A) (hr : zg_rt X = some .int) (hm : zg_nm X = yLs_hunt.name) (hk4 : ∀ (w : zw_T) (a0 : Nat) (x1 : Int32) (x2 : Int32) (x3 : Int32), k4 w a0 x1 x2 x3 = some r → zg X D G A (zg_Q X D G A 128 0 (zr_i r)) 128 0 w 4 [some (va_rf (some a0)), some (.int x1), some (.int x2), some (.int x3)] []) (w : zw_T) (a0 : Nat) (x1 : Int32) (x2 : Int32) (x3 : Int32) (h : zf_Ls_hunt_j60 F k4 w a0 x1 x2 x3 = some r) : zg X D G A (zg_Q X D G A 128 0 (zr_i r)) 128 0 w 60 [some (va_rf (some a0)), some (.int x1), some (.int x2), some (.int x3)] [] := by
  unfold zf_Ls_hunt_j60 at h
  refine zg_iinc hX dLs_hunt_60 (1 : Int32) rfl (by decide) (Nat.le_of_ble_eq_true rfl) rfl h (fun y60 h => ?_)
  refine zg_goto (tgt := 4) hX dLs_hunt_63 rfl ?_
  exact zg_sub (zl_k (zl_k (zl_k (zl_k zl_n)))) (hk4 w a0 x1 x2 y60 h)
set_option maxHeartbeats 4000000 in
set_option maxRecDepth 100000 in
theorem zm_Ls_hunt_L4 {X : zg_X} {D : va_G} {G : zw_G} {A : Nat → Prop} {F : Nat} {r : Int32 × zw_T} (hX : zg_ok X cLs_hunt RLs 4 2 40 128 0 D G A) (hr : zg_rt X = some .int) (hm : zg_nm X = yLs_hunt.name) : ∀ (n : Nat) (w : zw_T) (a0 : Nat) (x1 : Int32) (x2 : Int32) (x3 : Int32), zf_Ls_hunt_L4 F n w a0 x1 x2 x3 = some r → zg X D G A (zg_Q X D G A 128 0 (zr_i r)) 128 0 w 4 [some (va_rf (some a0)), some (.int x1), some (.int x2), some (.int x3)] [] := by
  intro n
  induction n with
  | zero =>
    intro w a0 x1 x2 x3 h
    unfold zf_Ls_hunt_L4 at h
    cases h
  | succ n ih =>
    intro w a0 x1 x2 x3 h
    rw [zf_Ls_hunt_L4] at h
    refine zg_iload_n hX dLs_hunt_4 rfl ?_
    refine zg_aload_n (x := (some a0)) hX dLs_hunt_5 rfl ?_
    refine zg_getR (ci := 4) (k := 0) hc_4 (by decide) (by decide) hin_4 zx_66 ft_4_0 hX dLs_hunt_6 h (fun a6 h => ?_)
    refine zg_getI (ci := 0) (k := 1) hc_0 (by decide) (by decide) hin_0 zx_53 ft_0_1 hX dLs_hunt_9 h (fun a9 h => ?_)
    refine zg_icmp_ge (tgt := 66) hX dLs_hunt_12 rfl h (fun h => ?_) (fun h => ?_)
    · refine zg_aload_n (x := (some a0)) hX dLs_hunt_66 rfl ?_
      refine zg_getR (ci := 4) (k := 0) hc_4 (by decide) (by decide) hin_4 zx_66 ft_4_0 hX dLs_hunt_67 h (fun a67 h => ?_)
      refine zg_getI (ci := 0) (k := 1) hc_0 (by decide) (by decide) hin_0 zx_53 ft_0_1 hX dLs_hunt_70 h (fun a70 h => ?_)
      cases h
      exact zg_iret hX hr (by decide) dLs_hunt_73
    · refine zg_iload_n hX dLs_hunt_15 rfl ?_
      refine zg_iconst hX dLs_hunt_16 (1 : Int32) (by decide) ?_
      refine zg_ishl hX dLs_hunt_17 ?_
      refine zg_aload_n (x := (some a0)) hX dLs_hunt_18 rfl ?_
      refine zg_getR (ci := 4) (k := 0) hc_4 (by decide) (by decide) hin_4 zx_66 ft_4_0 hX dLs_hunt_19 h (fun a19 h => ?_)
      refine zg_iload_n hX dLs_hunt_22 rfl ?_
      obtain ⟨a23, e23, t23, h⟩ := zf_at_e h
      obtain ⟨v23, w23, q23, h⟩ := zf_bd_e h
      refine zg_callV_i (mcy := 0) (v := v23) (w1 := w23) (st := [.int (zi_shl x2 (1 : Int32))]) hc_0 (by decide) e23 t23 [.int x3] (fun l => zm_Ai_bitAt l D G A F w a23 x3 (v23, w23) q23) (zt_V zx_504 zx_481 zx_482 zx_3 zx_483) rfl hd_Ai_bitAt (by decide) (by decide) (by decide) (Nat.le_of_ble_eq_true rfl) rfl rfl hX dLs_hunt_23 ?_
      refine zg_ior hX dLs_hunt_26 ?_
      refine zg_istore_n hX dLs_hunt_27 (Nat.le_of_ble_eq_true rfl) rfl h (fun y27 h => ?_)
      refine zg_aload_n (x := (some a0)) hX dLs_hunt_28 rfl ?_
      refine zg_getR (ci := 4) (k := 1) hc_4 (by decide) (by decide) hin_4 zx_67 ft_4_1 hX dLs_hunt_29 h (fun a29 h => ?_)
      refine zg_dup hX dLs_hunt_32 (zv_cat _) ?_
      refine zg_getI (ci := 6) (k := 5) hc_6 (by decide) (by decide) hin_6 zx_282 ft_6_5 hX dLs_hunt_33 h (fun a33 h => ?_)
      refine zg_iconst hX dLs_hunt_36 (1 : Int32) (by decide) ?_
      refine zg_iadd hX dLs_hunt_37 ?_
      refine zg_putI (ci := 6) (k := 5) hc_6 (by decide) (by decide) hin_6 zx_282 ft_6_5 tyPg okPg nmPg rfl (vp_nar_int _) rfl hX dLs_hunt_38 h (fun w38 h => ?_)
      refine zg_iload_n hX dLs_hunt_41 rfl ?_
      refine zg_iload_n hX dLs_hunt_42 rfl ?_
      refine zg_isub hX dLs_hunt_43 ?_
      refine zg_bipush hX dLs_hunt_44 (31 : Int32) (by decide) ?_
      refine zg_icmp_lt (tgt := 60) hX dLs_hunt_46 rfl h (fun h => ?_) (fun h => ?_)
      · exact zg_sub (zl_k (zl_k (zl_k (zl_k zl_n)))) (zm_Ls_hunt_j60 hX hr hm ih w38 a0 x1 y27 x3 h)
      · refine zg_iload_n hX dLs_hunt_49 rfl ?_
        obtain ⟨v50, w50, q50, h⟩ := zf_bd_e h
        refine zg_callSN_i (mcy := 0) (v := v50) (w1 := w50) (st := []) [.int y27] (fun l => zm_WP_isSync l D G A F w38 y27 (v50, w50) q50) (zt_G zx_507) zn_6 zx_506 zx_1 rfl hd_WP_isSync (by decide) (by decide) (by decide) (Nat.le_of_ble_eq_true rfl) rfl rfl hX dLs_hunt_50 ?_
        refine zg_if_eq (tgt := 60) hX dLs_hunt_53 rfl h (fun h => ?_) (fun h => ?_)
        · exact zg_sub (zl_k (zl_k (zl_k (zl_k zl_n)))) (zm_Ls_hunt_j60 hX hr hm ih w50 a0 x1 y27 x3 h)
        · refine zg_iload_n hX dLs_hunt_56 rfl ?_
          refine zg_iconst hX dLs_hunt_57 (1 : Int32) (by decide) ?_
          refine zg_iadd hX dLs_hunt_58 ?_
          cases h
          exact zg_iret hX hr (by decide) dLs_hunt_59
set_option maxHeartbeats 4000000 in
set_option maxRecDepth 100000 in
theorem zm_Ls_hunt (l : Launch) (D : va_G) (G : zw_G) (A : Nat → Prop) (F : Nat) (w : zw_T) (a0 : Nat) (x1 : Int32) (r : Int32 × zw_T) (h : zf_Ls_hunt F w a0 x1 = some r) : zc l yLs_hunt wsLs_hunt 2 40 128 0 D G A [.ref a0, .int x1] w (zr_i r) := by
  refine zc_of (ret := some .int) [some (va_rf (some a0)), some (.int x1), none, none] (plainFor_of_name (by decide +kernel)) rfl (Nat.le_of_ble_eq_true rfl) rfl rfl (fun X hX hr hm => ?_)
  unfold zf_Ls_hunt at h
  refine zg_iconst hX dLs_hunt_0 (0 : Int32) (by decide) ?_
  refine zg_istore_n hX dLs_hunt_1 (Nat.le_of_ble_eq_true rfl) rfl h (fun y1 h => ?_)
  refine zg_iload_n hX dLs_hunt_2 rfl ?_
  refine zg_istore_n hX dLs_hunt_3 (Nat.le_of_ble_eq_true rfl) rfl h (fun y3 h => ?_)
  exact zg_sub (zl_k (zl_k (zl_k (zl_k zl_n)))) (zm_Ls_hunt_L4 hX hr hm F w a0 x1 y1 y3 h)
def zf_Ai_hasWord (F : Nat) (w : zw_T) (a0 : Nat) (x1 : Int32) : Option (Int32 × zw_T) :=
  if x1 < 0 then (
  zf_b (0 : Int32) (some ((0 : Int32), w)))
  else (
  zf_at w 1 (some a0) fun a6 =>
  if ((zw_I w 1001 a6 0) - (32 : Int32)) < x1 then (
  zf_b (0 : Int32) (some ((0 : Int32), w)))
  else (
  zf_b (1 : Int32) (some ((1 : Int32), w))))
set_option maxHeartbeats 4000000 in
set_option maxRecDepth 100000 in
theorem zm_Ai_hasWord (l : Launch) (D : va_G) (G : zw_G) (A : Nat → Prop) (F : Nat) (w : zw_T) (a0 : Nat) (x1 : Int32) (r : Int32 × zw_T) (h : zf_Ai_hasWord F w a0 x1 = some r) : zc l yAi_hasWord wsAi_hasWord 0 0 128 0 D G A [.ref a0, .int x1] w (zr_i r) := by
  refine zc_of (ret := some .boolean) [some (va_rf (some a0)), some (.int x1)] (plainFor_of_name (by decide +kernel)) rfl (Nat.le_of_ble_eq_true rfl) rfl rfl (fun X hX hr hm => ?_)
  unfold zf_Ai_hasWord at h
  refine zg_iload_n hX dAi_hasWord_0 rfl ?_
  refine zg_if_lt (tgt := 19) hX dAi_hasWord_1 rfl h (fun h => ?_) (fun h => ?_)
  · refine zg_iconst hX dAi_hasWord_19 (0 : Int32) (by decide) ?_
    obtain ⟨hb20, h⟩ := zf_b_e h
    cases h
    exact zg_zret hX hr (zf_b_n hb20).1 (by decide) dAi_hasWord_20
  · refine zg_iload_n hX dAi_hasWord_4 rfl ?_
    refine zg_aload_n (x := (some a0)) hX dAi_hasWord_5 rfl ?_
    refine zg_getI (ci := 0) (k := 1) hc_0 (by decide) (by decide) hin_0 zx_52 ft_0_1 hX dAi_hasWord_6 h (fun a6 h => ?_)
    refine zg_bipush hX dAi_hasWord_9 (32 : Int32) (by decide) ?_
    refine zg_isub hX dAi_hasWord_11 ?_
    refine zg_icmp_gt (tgt := 19) hX dAi_hasWord_12 rfl h (fun h => ?_) (fun h => ?_)
    · refine zg_iconst hX dAi_hasWord_19 (0 : Int32) (by decide) ?_
      obtain ⟨hb20, h⟩ := zf_b_e h
      cases h
      exact zg_zret hX hr (zf_b_n hb20).1 (by decide) dAi_hasWord_20
    · refine zg_iconst hX dAi_hasWord_15 (1 : Int32) (by decide) ?_
      refine zg_goto (tgt := 20) hX dAi_hasWord_16 rfl ?_
      obtain ⟨hb20, h⟩ := zf_b_e h
      cases h
      exact zg_zret hX hr (zf_b_n hb20).1 (by decide) dAi_hasWord_20
def zf_Pg_hasFrame_L2 (F : Nat) : Nat → zw_T → Nat → Int32 → Int32 → Option (Int32 × zw_T)
  | 0, _, _, _, _ => none
  | n + 1, w, a0, x1, x2 =>
  zf_at w 7 (some a0) fun a4 =>
  if (zw_I w 1385 a4 0) ≤ x2 then (
  zf_b (0 : Int32) (some ((0 : Int32), w)))
  else (
  zf_at w 7 (some a0) fun a11 =>
  zf_ix w 401 (zw_R w 1384 a11 0) x2 fun a15 j15 =>
  zf_at w 2 (zw_R w 401 a15 j15) fun a16 =>
  zf_at w 3 (zw_R w 1064 a16 0) fun a19 =>
  if (zw_I w 1131 a19 0) = x1 then (
  zf_b (1 : Int32) (some ((1 : Int32), w)))
  else (
  zf_let (x2 + (1 : Int32)) fun y28 =>
  zf_Pg_hasFrame_L2 F n w a0 x1 y28))
def zf_Pg_hasFrame (F : Nat) (w : zw_T) (a0 : Nat) (x1 : Int32) : Option (Int32 × zw_T) :=
  zf_let (0 : Int32) fun y1 =>
  zf_Pg_hasFrame_L2 F F w a0 x1 y1
set_option maxHeartbeats 4000000 in
set_option maxRecDepth 100000 in
theorem zm_Pg_hasFrame_L2 {X : zg_X} {D : va_G} {G : zw_G} {A : Nat → Prop} {F : Nat} {r : Int32 × zw_T} (hX : zg_ok X cPg_hasFrame RPg 3 0 0 128 0 D G A) (hr : zg_rt X = some .boolean) (hm : zg_nm X = yPg_hasFrame.name) : ∀ (n : Nat) (w : zw_T) (a0 : Nat) (x1 : Int32) (x2 : Int32), zf_Pg_hasFrame_L2 F n w a0 x1 x2 = some r → zg X D G A (zg_Q X D G A 128 0 (zr_i r)) 128 0 w 2 [some (va_rf (some a0)), some (.int x1), some (.int x2)] [] := by
  intro n
  induction n with
  | zero =>
    intro w a0 x1 x2 h
    unfold zf_Pg_hasFrame_L2 at h
    cases h
  | succ n ih =>
    intro w a0 x1 x2 h
    rw [zf_Pg_hasFrame_L2] at h
    refine zg_iload_n hX dPg_hasFrame_2 rfl ?_
    refine zg_aload_n (x := (some a0)) hX dPg_hasFrame_3 rfl ?_
    refine zg_getI (ci := 6) (k := 1) hc_6 (by decide) (by decide) hin_6 zx_275 ft_6_1 hX dPg_hasFrame_4 h (fun a4 h => ?_)
    refine zg_icmp_ge (tgt := 34) hX dPg_hasFrame_7 rfl h (fun h => ?_) (fun h => ?_)
    · refine zg_iconst hX dPg_hasFrame_34 (0 : Int32) (by decide) ?_
      obtain ⟨hb35, h⟩ := zf_b_e h
      cases h
      exact zg_zret hX hr (zf_b_n hb35).1 (by decide) dPg_hasFrame_35
    · refine zg_aload_n (x := (some a0)) hX dPg_hasFrame_10 rfl ?_
      refine zg_getR (ci := 6) (k := 0) hc_6 (by decide) (by decide) hin_6 zx_274 ft_6_0 hX dPg_hasFrame_11 h (fun a11 h => ?_)
      refine zg_iload_n hX dPg_hasFrame_14 rfl ?_
      refine zg_aald (ci := 1) (t0 := 3) rfl hX dPg_hasFrame_15 h (fun a15 j15 h => ?_)
      refine zg_getR (ci := 1) (k := 0) hc_1 (by decide) (by decide) hin_1 zx_338 ft_1_0 hX dPg_hasFrame_16 h (fun a16 h => ?_)
      refine zg_getI (ci := 2) (k := 3) hc_2 (by decide) (by decide) hin_2 zx_187 ft_2_3 hX dPg_hasFrame_19 h (fun a19 h => ?_)
      refine zg_iload_n hX dPg_hasFrame_22 rfl ?_
      refine zg_icmp_ne (tgt := 28) hX dPg_hasFrame_23 rfl h (fun h => ?_) (fun h => ?_)
      · refine zg_iconst hX dPg_hasFrame_26 (1 : Int32) (by decide) ?_
        obtain ⟨hb27, h⟩ := zf_b_e h
        cases h
        exact zg_zret hX hr (zf_b_n hb27).1 (by decide) dPg_hasFrame_27
      · refine zg_iinc hX dPg_hasFrame_28 (1 : Int32) rfl (by decide) (Nat.le_of_ble_eq_true rfl) rfl h (fun y28 h => ?_)
        refine zg_goto (tgt := 2) hX dPg_hasFrame_31 rfl ?_
        exact zg_sub (zl_k (zl_k (zl_k zl_n))) (ih w a0 x1 y28 h)
set_option maxHeartbeats 4000000 in
set_option maxRecDepth 100000 in
theorem zm_Pg_hasFrame (l : Launch) (D : va_G) (G : zw_G) (A : Nat → Prop) (F : Nat) (w : zw_T) (a0 : Nat) (x1 : Int32) (r : Int32 × zw_T) (h : zf_Pg_hasFrame F w a0 x1 = some r) : zc l yPg_hasFrame wsPg_hasFrame 0 0 128 0 D G A [.ref a0, .int x1] w (zr_i r) := by
  refine zc_of (ret := some .boolean) [some (va_rf (some a0)), some (.int x1), none] (plainFor_of_name (by decide +kernel)) rfl (Nat.le_of_ble_eq_true rfl) rfl rfl (fun X hX hr hm => ?_)
  unfold zf_Pg_hasFrame at h
  refine zg_iconst hX dPg_hasFrame_0 (0 : Int32) (by decide) ?_
  refine zg_istore_n hX dPg_hasFrame_1 (Nat.le_of_ble_eq_true rfl) rfl h (fun y1 h => ?_)
  exact zg_sub (zl_k (zl_k (zl_k zl_n))) (zm_Pg_hasFrame_L2 hX hr hm F w a0 x1 y1 h)
def zf_Ai_wordAt (F : Nat) (w : zw_T) (a0 : Nat) (x1 : Int32) : Option (Int32 × zw_T) :=
  zf_let (x1 / (32 : Int32)) fun y4 =>
  zf_let (zi_rem x1 (32 : Int32)) fun y9 =>
  if y9 = 0 then (
  zf_at w 1 (some a0) fun a15 =>
  zf_ix w 102 (zw_R w 1000 a15 0) y4 fun a19 j19 =>
  some ((zw_I w 102 a19 j19), w))
  else (
  zf_at w 1 (some a0) fun a24 =>
  zf_ix w 102 (zw_R w 1000 a24 0) y4 fun a28 j28 =>
  zf_at w 1 (some a0) fun a32 =>
  zf_ix w 102 (zw_R w 1000 a32 0) (y4 + (1 : Int32)) fun a38 j38 =>
  some (((zi_shl (zw_I w 102 a28 j28) y9) ||| (zi_ushr (zw_I w 102 a38 j38) ((32 : Int32) - y9))), w))
set_option maxHeartbeats 4000000 in
set_option maxRecDepth 100000 in
theorem zm_Ai_wordAt (l : Launch) (D : va_G) (G : zw_G) (A : Nat → Prop) (F : Nat) (w : zw_T) (a0 : Nat) (x1 : Int32) (r : Int32 × zw_T) (h : zf_Ai_wordAt F w a0 x1 = some r) : zc l yAi_wordAt wsAi_wordAt 0 0 128 0 D G A [.ref a0, .int x1] w (zr_i r) := by
  refine zc_of (ret := some .int) [some (va_rf (some a0)), some (.int x1), none, none] (plainFor_of_name (by decide +kernel)) rfl (Nat.le_of_ble_eq_true rfl) rfl rfl (fun X hX hr hm => ?_)
  unfold zf_Ai_wordAt at h
  refine zg_iload_n hX dAi_wordAt_0 rfl ?_
  refine zg_bipush hX dAi_wordAt_1 (32 : Int32) (by decide) ?_
  refine zg_idiv hX dAi_wordAt_3 (by decide) ?_
  refine zg_istore_n hX dAi_wordAt_4 (Nat.le_of_ble_eq_true rfl) rfl h (fun y4 h => ?_)
  refine zg_iload_n hX dAi_wordAt_5 rfl ?_
  refine zg_bipush hX dAi_wordAt_6 (32 : Int32) (by decide) ?_
  refine zg_irem hX dAi_wordAt_8 (by decide) ?_
  refine zg_istore_n hX dAi_wordAt_9 (Nat.le_of_ble_eq_true rfl) rfl h (fun y9 h => ?_)
  refine zg_iload_n hX dAi_wordAt_10 rfl ?_
  refine zg_if_ne (tgt := 23) hX dAi_wordAt_11 rfl h (fun h => ?_) (fun h => ?_)
  · refine zg_aload_n (x := (some a0)) hX dAi_wordAt_14 rfl ?_
    refine zg_getR (ci := 0) (k := 0) hc_0 (by decide) (by decide) hin_0 zx_51 ft_0_0 hX dAi_wordAt_15 h (fun a15 h => ?_)
    refine zg_iload_n hX dAi_wordAt_18 rfl ?_
    refine zg_iald (kd := 102) (by decide) (by decide) hX dAi_wordAt_19 h (fun a19 j19 h => ?_)
    refine zg_goto (tgt := 45) hX dAi_wordAt_20 rfl ?_
    cases h
    exact zg_iret hX hr (by decide) dAi_wordAt_45
  · refine zg_aload_n (x := (some a0)) hX dAi_wordAt_23 rfl ?_
    refine zg_getR (ci := 0) (k := 0) hc_0 (by decide) (by decide) hin_0 zx_51 ft_0_0 hX dAi_wordAt_24 h (fun a24 h => ?_)
    refine zg_iload_n hX dAi_wordAt_27 rfl ?_
    refine zg_iald (kd := 102) (by decide) (by decide) hX dAi_wordAt_28 h (fun a28 j28 h => ?_)
    refine zg_iload_n hX dAi_wordAt_29 rfl ?_
    refine zg_ishl hX dAi_wordAt_30 ?_
    refine zg_aload_n (x := (some a0)) hX dAi_wordAt_31 rfl ?_
    refine zg_getR (ci := 0) (k := 0) hc_0 (by decide) (by decide) hin_0 zx_51 ft_0_0 hX dAi_wordAt_32 h (fun a32 h => ?_)
    refine zg_iload_n hX dAi_wordAt_35 rfl ?_
    refine zg_iconst hX dAi_wordAt_36 (1 : Int32) (by decide) ?_
    refine zg_iadd hX dAi_wordAt_37 ?_
    refine zg_iald (kd := 102) (by decide) (by decide) hX dAi_wordAt_38 h (fun a38 j38 h => ?_)
    refine zg_bipush hX dAi_wordAt_39 (32 : Int32) (by decide) ?_
    refine zg_iload_n hX dAi_wordAt_41 rfl ?_
    refine zg_isub hX dAi_wordAt_42 ?_
    refine zg_iushr hX dAi_wordAt_43 ?_
    refine zg_ior hX dAi_wordAt_44 ?_
    cases h
    exact zg_iret hX hr (by decide) dAi_wordAt_45
def zf_Rp_traceOf (F : Nat) (w : zw_T) (x0 : Int32) : Option (Int32 × zw_T) :=
  zf_bd (zf_Rp_remainder F w (zi_ushr x0 (1 : Int32))) fun v3 w3 =>
  zf_bd (zf_In_bitCount F w3 x0) fun v9 w9 =>
  some (((zi_shl v3 (1 : Int32)) ||| (v9 &&& (1 : Int32))), w9)
set_option maxHeartbeats 4000000 in
set_option maxRecDepth 100000 in
theorem zm_Rp_traceOf (l : Launch) (D : va_G) (G : zw_G) (A : Nat → Prop) (F : Nat) (w : zw_T) (x0 : Int32) (r : Int32 × zw_T) (h : zf_Rp_traceOf F w x0 = some r) : zc l yRp_traceOf wsRp_traceOf 1 22 128 0 D G A [.int x0] w (zr_i r) := by
  refine zc_of (ret := some .int) [some (.int x0)] (plainFor_of_name (by decide +kernel)) rfl (Nat.le_of_ble_eq_true rfl) rfl rfl (fun X hX hr hm => ?_)
  unfold zf_Rp_traceOf at h
  refine zg_iload_n hX dRp_traceOf_0 rfl ?_
  refine zg_iconst hX dRp_traceOf_1 (1 : Int32) (by decide) ?_
  refine zg_iushr hX dRp_traceOf_2 ?_
  obtain ⟨v3, w3, q3, h⟩ := zf_bd_e h
  refine zg_callS_i (mcy := 0) (v := v3) (w1 := w3) (st := []) [.int (zi_ushr x0 (1 : Int32))] (fun l => zm_Rp_remainder l D G A F w (zi_ushr x0 (1 : Int32)) (v3, w3) q3) (zt_S zx_155 zx_137 zx_6 zx_138) rfl hd_Rp_remainder (by decide) (by decide) (by decide) (Nat.le_of_ble_eq_true rfl) rfl rfl hX dRp_traceOf_3 ?_
  refine zg_iconst hX dRp_traceOf_6 (1 : Int32) (by decide) ?_
  refine zg_ishl hX dRp_traceOf_7 ?_
  refine zg_iload_n hX dRp_traceOf_8 rfl ?_
  obtain ⟨v9, w9, q9, h⟩ := zf_bd_e h
  refine zg_callS_i (mcy := 0) (v := v9) (w1 := w9) (st := [.int (zi_shl v3 (1 : Int32))]) [.int x0] (fun l => zm_In_bitCount l D G A F w3 x0 (v9, w9) q9) (zt_S zx_156 zx_140 zx_7 zx_141) rfl hd_In_bitCount (by decide) (by decide) (by decide) (Nat.le_of_ble_eq_true rfl) rfl rfl hX dRp_traceOf_9 ?_
  refine zg_iconst hX dRp_traceOf_12 (1 : Int32) (by decide) ?_
  refine zg_iand hX dRp_traceOf_13 ?_
  refine zg_ior hX dRp_traceOf_14 ?_
  cases h
  exact zg_iret hX hr (by decide) dRp_traceOf_15
def zf_Rp_oneWrongBit_L2 (F : Nat) : Nat → zw_T → Int32 → Int32 → Option (Int32 × zw_T)
  | 0, _, _, _ => none
  | n + 1, w, x0, x1 =>
  if (32 : Int32) ≤ x1 then (
  some ((-1 : Int32), w))
  else (
  zf_tr x1 fun v12 =>
  if v12 = x0 then (
  some ((zi_shl (1 : Int32) x1), w))
  else (
  zf_let (x1 + (1 : Int32)) fun y21 =>
  zf_Rp_oneWrongBit_L2 F n w x0 y21))
def zf_Rp_oneWrongBit (F : Nat) (w : zw_T) (x0 : Int32) : Option (Int32 × zw_T) :=
  zf_let (0 : Int32) fun y1 =>
  zf_Rp_oneWrongBit_L2 F F w x0 y1
set_option maxHeartbeats 4000000 in
set_option maxRecDepth 100000 in
theorem zm_Rp_oneWrongBit_L2 {X : zg_X} {D : va_G} {G : zw_G} {A : Nat → Prop} {F : Nat} {r : Int32 × zw_T} (hX : zg_ok X cRp_oneWrongBit "WakingPagers$Repairer" 2 0 0 128 0 D G A) (hr : zg_rt X = some .int) (hm : zg_nm X = yRp_oneWrongBit.name) : ∀ (n : Nat) (w : zw_T) (x0 : Int32) (x1 : Int32), zf_Rp_oneWrongBit_L2 F n w x0 x1 = some r → zg X D G A (zg_Q X D G A 128 0 (zr_i r)) 128 0 w 2 [some (.int x0), some (.int x1)] [] := by
  intro n
  induction n with
  | zero =>
    intro w x0 x1 h
    unfold zf_Rp_oneWrongBit_L2 at h
    cases h
  | succ n ih =>
    intro w x0 x1 h
    rw [zf_Rp_oneWrongBit_L2] at h
    refine zg_iload_n hX dRp_oneWrongBit_2 rfl ?_
    refine zg_bipush hX dRp_oneWrongBit_3 (32 : Int32) (by decide) ?_
    refine zg_icmp_ge (tgt := 27) hX dRp_oneWrongBit_5 rfl h (fun h => ?_) (fun h => ?_)
    · refine zg_iconst hX dRp_oneWrongBit_27 (-1 : Int32) (by decide) ?_
      cases h
      exact zg_iret hX hr (by decide) dRp_oneWrongBit_28
    · refine zg_gets zx_160 hX dRp_oneWrongBit_8 (fun t8 ht8 => ?_)
      refine zg_iload_n hX dRp_oneWrongBit_11 rfl ?_
      refine zg_tald ht8 hX dRp_oneWrongBit_12 h (fun v12 h => ?_)
      refine zg_iload_n hX dRp_oneWrongBit_13 rfl ?_
      refine zg_icmp_ne (tgt := 21) hX dRp_oneWrongBit_14 rfl h (fun h => ?_) (fun h => ?_)
      · refine zg_iconst hX dRp_oneWrongBit_17 (1 : Int32) (by decide) ?_
        refine zg_iload_n hX dRp_oneWrongBit_18 rfl ?_
        refine zg_ishl hX dRp_oneWrongBit_19 ?_
        cases h
        exact zg_iret hX hr (by decide) dRp_oneWrongBit_20
      · refine zg_iinc hX dRp_oneWrongBit_21 (1 : Int32) rfl (by decide) (Nat.le_of_ble_eq_true rfl) rfl h (fun y21 h => ?_)
        refine zg_goto (tgt := 2) hX dRp_oneWrongBit_24 rfl ?_
        exact zg_sub (zl_k (zl_k zl_n)) (ih w x0 y21 h)
set_option maxHeartbeats 4000000 in
set_option maxRecDepth 100000 in
theorem zm_Rp_oneWrongBit (l : Launch) (D : va_G) (G : zw_G) (A : Nat → Prop) (F : Nat) (w : zw_T) (x0 : Int32) (r : Int32 × zw_T) (h : zf_Rp_oneWrongBit F w x0 = some r) : zc l yRp_oneWrongBit wsRp_oneWrongBit 0 0 128 0 D G A [.int x0] w (zr_i r) := by
  refine zc_of (ret := some .int) [some (.int x0), none] (plainFor_of_name (by decide +kernel)) rfl (Nat.le_of_ble_eq_true rfl) rfl rfl (fun X hX hr hm => ?_)
  unfold zf_Rp_oneWrongBit at h
  refine zg_iconst hX dRp_oneWrongBit_0 (0 : Int32) (by decide) ?_
  refine zg_istore_n hX dRp_oneWrongBit_1 (Nat.le_of_ble_eq_true rfl) rfl h (fun y1 h => ?_)
  exact zg_sub (zl_k (zl_k zl_n)) (zm_Rp_oneWrongBit_L2 hX hr hm F w x0 y1 h)
def zf_Rp_twoWrongBits_L12 (F : Nat) (k2 : zw_T → Int32 → Int32 → Option (Int32 × zw_T)) : Nat → zw_T → Int32 → Int32 → Int32 → Option (Int32 × zw_T)
  | 0, _, _, _, _ => none
  | n + 1, w, x0, x1, x2 =>
  if (32 : Int32) ≤ x2 then (
  zf_let (x1 + (1 : Int32)) fun y47 =>
  k2 w x0 y47)
  else (
  zf_tr x1 fun v22 =>
  zf_tr x2 fun v27 =>
  if (v22 ^^^ v27) = x0 then (
  some (((zi_shl (1 : Int32) x1) ||| (zi_shl (1 : Int32) x2)), w))
  else (
  zf_let (x2 + (1 : Int32)) fun y41 =>
  zf_Rp_twoWrongBits_L12 F k2 n w x0 x1 y41))
def zf_Rp_twoWrongBits_L2 (F : Nat) : Nat → zw_T → Int32 → Int32 → Option (Int32 × zw_T)
  | 0, _, _, _ => none
  | n + 1, w, x0, x1 =>
  if (32 : Int32) ≤ x1 then (
  some ((-1 : Int32), w))
  else (
  zf_let (x1 + (1 : Int32)) fun y11 =>
  zf_Rp_twoWrongBits_L12 F (zf_Rp_twoWrongBits_L2 F n) F w x0 x1 y11)
def zf_Rp_twoWrongBits (F : Nat) (w : zw_T) (x0 : Int32) : Option (Int32 × zw_T) :=
  zf_let (0 : Int32) fun y1 =>
  zf_Rp_twoWrongBits_L2 F F w x0 y1
set_option maxHeartbeats 4000000 in
set_option maxRecDepth 100000 in
theorem zm_Rp_twoWrongBits_L12 {X : zg_X} {D : va_G} {G : zw_G} {A : Nat → Prop} {F : Nat} {k2 : zw_T → Int32 → Int32 → Option (Int32 × zw_T)} {r : Int32 × zw_T} (hX : zg_ok X cRp_twoWrongBits "WakingPagers$Repairer" 3 0 0 128 0 D G A) (hr : zg_rt X = some .int) (hm : zg_nm X = yRp_twoWrongBits.name) (hk2 : ∀ (w : zw_T) (x0 : Int32) (x1 : Int32), k2 w x0 x1 = some r → zg X D G A (zg_Q X D G A 128 0 (zr_i r)) 128 0 w 2 [some (.int x0), some (.int x1), none] []) : ∀ (n : Nat) (w : zw_T) (x0 : Int32) (x1 : Int32) (x2 : Int32), zf_Rp_twoWrongBits_L12 F k2 n w x0 x1 x2 = some r → zg X D G A (zg_Q X D G A 128 0 (zr_i r)) 128 0 w 12 [some (.int x0), some (.int x1), some (.int x2)] [] := by
  intro n
  induction n with
  | zero =>
    intro w x0 x1 x2 h
    unfold zf_Rp_twoWrongBits_L12 at h
    cases h
  | succ n ih =>
    intro w x0 x1 x2 h
    rw [zf_Rp_twoWrongBits_L12] at h
    refine zg_iload_n hX dRp_twoWrongBits_12 rfl ?_
    refine zg_bipush hX dRp_twoWrongBits_13 (32 : Int32) (by decide) ?_
    refine zg_icmp_ge (tgt := 47) hX dRp_twoWrongBits_15 rfl h (fun h => ?_) (fun h => ?_)
    · refine zg_iinc hX dRp_twoWrongBits_47 (1 : Int32) rfl (by decide) (Nat.le_of_ble_eq_true rfl) rfl h (fun y47 h => ?_)
      refine zg_goto (tgt := 2) hX dRp_twoWrongBits_50 rfl ?_
      exact zg_sub (zl_k (zl_k (zl_d zl_n))) (hk2 w x0 y47 h)
    · refine zg_gets zx_160 hX dRp_twoWrongBits_18 (fun t18 ht18 => ?_)
      refine zg_iload_n hX dRp_twoWrongBits_21 rfl ?_
      refine zg_tald ht18 hX dRp_twoWrongBits_22 h (fun v22 h => ?_)
      refine zg_gets zx_160 hX dRp_twoWrongBits_23 (fun t23 ht23 => ?_)
      refine zg_iload_n hX dRp_twoWrongBits_26 rfl ?_
      refine zg_tald ht23 hX dRp_twoWrongBits_27 h (fun v27 h => ?_)
      refine zg_ixor hX dRp_twoWrongBits_28 ?_
      refine zg_iload_n hX dRp_twoWrongBits_29 rfl ?_
      refine zg_icmp_ne (tgt := 41) hX dRp_twoWrongBits_30 rfl h (fun h => ?_) (fun h => ?_)
      · refine zg_iconst hX dRp_twoWrongBits_33 (1 : Int32) (by decide) ?_
        refine zg_iload_n hX dRp_twoWrongBits_34 rfl ?_
        refine zg_ishl hX dRp_twoWrongBits_35 ?_
        refine zg_iconst hX dRp_twoWrongBits_36 (1 : Int32) (by decide) ?_
        refine zg_iload_n hX dRp_twoWrongBits_37 rfl ?_
        refine zg_ishl hX dRp_twoWrongBits_38 ?_
        refine zg_ior hX dRp_twoWrongBits_39 ?_
        cases h
        exact zg_iret hX hr (by decide) dRp_twoWrongBits_40
      · refine zg_iinc hX dRp_twoWrongBits_41 (1 : Int32) rfl (by decide) (Nat.le_of_ble_eq_true rfl) rfl h (fun y41 h => ?_)
        refine zg_goto (tgt := 12) hX dRp_twoWrongBits_44 rfl ?_
        exact zg_sub (zl_k (zl_k (zl_k zl_n))) (ih w x0 x1 y41 h)
set_option maxHeartbeats 4000000 in
set_option maxRecDepth 100000 in
theorem zm_Rp_twoWrongBits_L2 {X : zg_X} {D : va_G} {G : zw_G} {A : Nat → Prop} {F : Nat} {r : Int32 × zw_T} (hX : zg_ok X cRp_twoWrongBits "WakingPagers$Repairer" 3 0 0 128 0 D G A) (hr : zg_rt X = some .int) (hm : zg_nm X = yRp_twoWrongBits.name) : ∀ (n : Nat) (w : zw_T) (x0 : Int32) (x1 : Int32), zf_Rp_twoWrongBits_L2 F n w x0 x1 = some r → zg X D G A (zg_Q X D G A 128 0 (zr_i r)) 128 0 w 2 [some (.int x0), some (.int x1), none] [] := by
  intro n
  induction n with
  | zero =>
    intro w x0 x1 h
    unfold zf_Rp_twoWrongBits_L2 at h
    cases h
  | succ n ih =>
    intro w x0 x1 h
    rw [zf_Rp_twoWrongBits_L2] at h
    refine zg_iload_n hX dRp_twoWrongBits_2 rfl ?_
    refine zg_bipush hX dRp_twoWrongBits_3 (32 : Int32) (by decide) ?_
    refine zg_icmp_ge (tgt := 53) hX dRp_twoWrongBits_5 rfl h (fun h => ?_) (fun h => ?_)
    · refine zg_iconst hX dRp_twoWrongBits_53 (-1 : Int32) (by decide) ?_
      cases h
      exact zg_iret hX hr (by decide) dRp_twoWrongBits_54
    · refine zg_iload_n hX dRp_twoWrongBits_8 rfl ?_
      refine zg_iconst hX dRp_twoWrongBits_9 (1 : Int32) (by decide) ?_
      refine zg_iadd hX dRp_twoWrongBits_10 ?_
      refine zg_istore_n hX dRp_twoWrongBits_11 (Nat.le_of_ble_eq_true rfl) rfl h (fun y11 h => ?_)
      exact zg_sub (zl_k (zl_k (zl_k zl_n))) (zm_Rp_twoWrongBits_L12 hX hr hm ih F w x0 x1 y11 h)
set_option maxHeartbeats 4000000 in
set_option maxRecDepth 100000 in
theorem zm_Rp_twoWrongBits (l : Launch) (D : va_G) (G : zw_G) (A : Nat → Prop) (F : Nat) (w : zw_T) (x0 : Int32) (r : Int32 × zw_T) (h : zf_Rp_twoWrongBits F w x0 = some r) : zc l yRp_twoWrongBits wsRp_twoWrongBits 0 0 128 0 D G A [.int x0] w (zr_i r) := by
  refine zc_of (ret := some .int) [some (.int x0), none, none] (plainFor_of_name (by decide +kernel)) rfl (Nat.le_of_ble_eq_true rfl) rfl rfl (fun X hX hr hm => ?_)
  unfold zf_Rp_twoWrongBits at h
  refine zg_iconst hX dRp_twoWrongBits_0 (0 : Int32) (by decide) ?_
  refine zg_istore_n hX dRp_twoWrongBits_1 (Nat.le_of_ble_eq_true rfl) rfl h (fun y1 h => ?_)
  exact zg_sub (zl_k (zl_k (zl_d zl_n))) (zm_Rp_twoWrongBits_L2 hX hr hm F w x0 y1 h)
def zf_Rp_wrongBits (F : Nat) (w : zw_T) (x0 : Int32) : Option (Int32 × zw_T) :=
  zf_bd (zf_Rp_traceOf F w x0) fun v1 w1 =>
  zf_let v1 fun y4 =>
  if y4 = 0 then (
  some ((0 : Int32), w1))
  else (
  if (y4 &&& (1 : Int32)) = (1 : Int32) then (
  zf_bd (zf_Rp_oneWrongBit F w1 y4) fun v19 w19 =>
  some (v19, w19))
  else (
  zf_bd (zf_Rp_twoWrongBits F w1 y4) fun v26 w26 =>
  some (v26, w26)))
set_option maxHeartbeats 4000000 in
set_option maxRecDepth 100000 in
theorem zm_Rp_wrongBits (l : Launch) (D : va_G) (G : zw_G) (A : Nat → Prop) (F : Nat) (w : zw_T) (x0 : Int32) (r : Int32 × zw_T) (h : zf_Rp_wrongBits F w x0 = some r) : zc l yRp_wrongBits wsRp_wrongBits 2 42 128 0 D G A [.int x0] w (zr_i r) := by
  refine zc_of (ret := some .int) [some (.int x0), none] (plainFor_of_name (by decide +kernel)) rfl (Nat.le_of_ble_eq_true rfl) rfl rfl (fun X hX hr hm => ?_)
  unfold zf_Rp_wrongBits at h
  refine zg_iload_n hX dRp_wrongBits_0 rfl ?_
  obtain ⟨v1, w1, q1, h⟩ := zf_bd_e h
  refine zg_callS_i (mcy := 0) (v := v1) (w1 := w1) (st := []) [.int x0] (fun l => zm_Rp_traceOf l D G A F w x0 (v1, w1) q1) (zt_S zx_152 zx_153 zx_6 zx_154) rfl hd_Rp_traceOf (by decide) (by decide) (by decide) (Nat.le_of_ble_eq_true rfl) rfl rfl hX dRp_wrongBits_1 ?_
  refine zg_istore_n hX dRp_wrongBits_4 (Nat.le_of_ble_eq_true rfl) rfl h (fun y4 h => ?_)
  refine zg_iload_n hX dRp_wrongBits_5 rfl ?_
  refine zg_if_ne (tgt := 11) hX dRp_wrongBits_6 rfl h (fun h => ?_) (fun h => ?_)
  · refine zg_iconst hX dRp_wrongBits_9 (0 : Int32) (by decide) ?_
    cases h
    exact zg_iret hX hr (by decide) dRp_wrongBits_10
  · refine zg_iload_n hX dRp_wrongBits_11 rfl ?_
    refine zg_iconst hX dRp_wrongBits_12 (1 : Int32) (by decide) ?_
    refine zg_iand hX dRp_wrongBits_13 ?_
    refine zg_iconst hX dRp_wrongBits_14 (1 : Int32) (by decide) ?_
    refine zg_icmp_ne (tgt := 25) hX dRp_wrongBits_15 rfl h (fun h => ?_) (fun h => ?_)
    · refine zg_iload_n hX dRp_wrongBits_18 rfl ?_
      obtain ⟨v19, w19, q19, h⟩ := zf_bd_e h
      refine zg_callS_i (mcy := 0) (v := v19) (w1 := w19) (st := []) [.int y4] (fun l => zm_Rp_oneWrongBit l D G A F w1 y4 (v19, w19) q19) (zt_S zx_157 zx_158 zx_6 zx_159) rfl hd_Rp_oneWrongBit (by decide) (by decide) (by decide) (Nat.le_of_ble_eq_true rfl) rfl rfl hX dRp_wrongBits_19 ?_
      refine zg_goto (tgt := 29) hX dRp_wrongBits_22 rfl ?_
      cases h
      exact zg_iret hX hr (by decide) dRp_wrongBits_29
    · refine zg_iload_n hX dRp_wrongBits_25 rfl ?_
      obtain ⟨v26, w26, q26, h⟩ := zf_bd_e h
      refine zg_callS_i (mcy := 0) (v := v26) (w1 := w26) (st := []) [.int y4] (fun l => zm_Rp_twoWrongBits l D G A F w1 y4 (v26, w26) q26) (zt_S zx_162 zx_163 zx_6 zx_164) rfl hd_Rp_twoWrongBits (by decide) (by decide) (by decide) (Nat.le_of_ble_eq_true rfl) rfl rfl hX dRp_wrongBits_26 ?_
      cases h
      exact zg_iret hX hr (by decide) dRp_wrongBits_29
def zf_Id_decimal (F : Nat) (w : zw_T) (x0 : Int32) (x1 : Int32) : Option (Int32 × zw_T) :=
  if (9 : Int32) < x0 then (
  some ((-1 : Int32), w))
  else (
  if (9 : Int32) < x1 then (
  some ((-1 : Int32), w))
  else (
  some ((((10 : Int32) * x0) + x1), w)))
set_option maxHeartbeats 4000000 in
set_option maxRecDepth 100000 in
theorem zm_Id_decimal (l : Launch) (D : va_G) (G : zw_G) (A : Nat → Prop) (F : Nat) (w : zw_T) (x0 : Int32) (x1 : Int32) (r : Int32 × zw_T) (h : zf_Id_decimal F w x0 x1 = some r) : zc l yId_decimal wsId_decimal 0 0 128 0 D G A [.int x0, .int x1] w (zr_i r) := by
  refine zc_of (ret := some .int) [some (.int x0), some (.int x1)] (plainFor_of_name (by decide +kernel)) rfl (Nat.le_of_ble_eq_true rfl) rfl rfl (fun X hX hr hm => ?_)
  unfold zf_Id_decimal at h
  refine zg_iload_n hX dId_decimal_0 rfl ?_
  refine zg_bipush hX dId_decimal_1 (9 : Int32) (by decide) ?_
  refine zg_icmp_gt (tgt := 21) hX dId_decimal_3 rfl h (fun h => ?_) (fun h => ?_)
  · refine zg_iconst hX dId_decimal_21 (-1 : Int32) (by decide) ?_
    cases h
    exact zg_iret hX hr (by decide) dId_decimal_22
  · refine zg_iload_n hX dId_decimal_6 rfl ?_
    refine zg_bipush hX dId_decimal_7 (9 : Int32) (by decide) ?_
    refine zg_icmp_gt (tgt := 21) hX dId_decimal_9 rfl h (fun h => ?_) (fun h => ?_)
    · refine zg_iconst hX dId_decimal_21 (-1 : Int32) (by decide) ?_
      cases h
      exact zg_iret hX hr (by decide) dId_decimal_22
    · refine zg_bipush hX dId_decimal_12 (10 : Int32) (by decide) ?_
      refine zg_iload_n hX dId_decimal_14 rfl ?_
      refine zg_imul hX dId_decimal_15 ?_
      refine zg_iload_n hX dId_decimal_16 rfl ?_
      refine zg_iadd hX dId_decimal_17 ?_
      refine zg_goto (tgt := 22) hX dId_decimal_18 rfl ?_
      cases h
      exact zg_iret hX hr (by decide) dId_decimal_22
def zf_Id_numberIn_j35 (F : Nat) (w : zw_T) (s0 : Int32) : Option (Int32 × zw_T) :=
  zf_let s0 fun y35 =>
  if y35 < 0 then (
  some ((-1 : Int32), w))
  else (
  if (64 : Int32) ≤ y35 then (
  some ((-1 : Int32), w))
  else (
  some (y35, w)))
def zf_Id_numberIn (F : Nat) (w : zw_T) (a0 : Nat) (o1 : Option Nat) (x2 : Int32) : Option (Int32 × zw_T) :=
  zf_at w 3 (some a0) fun a2 =>
  zf_bd (zf_Id_numberSigns F w a2) fun v2 w2 =>
  if v2 ≤ x2 then (
  zf_at w2 3 (some a0) fun a11 =>
  if (zw_I w2 1130 a11 0) = 0 then (
  zf_ix w2 103 o1 (0 : Int32) fun a28 j28 =>
  zf_ix w2 103 o1 (1 : Int32) fun a31 j31 =>
  zf_bd (zf_Id_decimal F w2 (zw_I w2 103 a28 j28) (zw_I w2 103 a31 j31)) fun v32 w32 =>
  zf_Id_numberIn_j35 F w32 v32)
  else (
  zf_ix w2 103 o1 (0 : Int32) fun a19 j19 =>
  zf_Id_numberIn_j35 F w2 ((zw_I w2 103 a19 j19) - (32 : Int32))))
  else (
  some ((-1 : Int32), w2))
set_option maxHeartbeats 4000000 in
set_option maxRecDepth 100000 in
theorem zm_Id_numberIn_j35 {X : zg_X} {D : va_G} {G : zw_G} {A : Nat → Prop} {F : Nat} {r : Int32 × zw_T} (hX : zg_ok X cId_numberIn RId 4 1 21 128 0 D G A) (hr : zg_rt X = some .int) (hm : zg_nm X = yId_numberIn.name) (w : zw_T) (s0 : Int32) (h : zf_Id_numberIn_j35 F w s0 = some r) : zg X D G A (zg_Q X D G A 128 0 (zr_i r)) 128 0 w 35 [none, none, none, none] [.int s0] := by
  unfold zf_Id_numberIn_j35 at h
  refine zg_istore_n hX dId_numberIn_35 (Nat.le_of_ble_eq_true rfl) rfl h (fun y35 h => ?_)
  refine zg_iload_n hX dId_numberIn_36 rfl ?_
  refine zg_if_lt (tgt := 50) hX dId_numberIn_37 rfl h (fun h => ?_) (fun h => ?_)
  · refine zg_iconst hX dId_numberIn_50 (-1 : Int32) (by decide) ?_
    cases h
    exact zg_iret hX hr (by decide) dId_numberIn_51
  · refine zg_iload_n hX dId_numberIn_40 rfl ?_
    refine zg_bipush hX dId_numberIn_41 (64 : Int32) (by decide) ?_
    refine zg_icmp_ge (tgt := 50) hX dId_numberIn_43 rfl h (fun h => ?_) (fun h => ?_)
    · refine zg_iconst hX dId_numberIn_50 (-1 : Int32) (by decide) ?_
      cases h
      exact zg_iret hX hr (by decide) dId_numberIn_51
    · refine zg_iload_n hX dId_numberIn_46 rfl ?_
      refine zg_goto (tgt := 51) hX dId_numberIn_47 rfl ?_
      cases h
      exact zg_iret hX hr (by decide) dId_numberIn_51
set_option maxHeartbeats 4000000 in
set_option maxRecDepth 100000 in
theorem zm_Id_numberIn (l : Launch) (D : va_G) (G : zw_G) (A : Nat → Prop) (F : Nat) (w : zw_T) (a0 : Nat) (o1 : Option Nat) (x2 : Int32) (r : Int32 × zw_T) (h : zf_Id_numberIn F w a0 o1 x2 = some r) : zc l yId_numberIn wsId_numberIn 1 21 128 0 D G A [.ref a0, va_rf o1, .int x2] w (zr_i r) := by
  refine zc_of (ret := some .int) [some (va_rf (some a0)), some (va_rf o1), some (.int x2), none] (plainFor_of_name (by decide +kernel)) rfl (by cases o1 <;> exact Nat.le_of_ble_eq_true rfl) (by cases o1 <;> rfl) rfl (fun X hX hr hm => ?_)
  unfold zf_Id_numberIn at h
  refine zg_iload_n hX dId_numberIn_0 rfl ?_
  refine zg_aload_n (x := (some a0)) hX dId_numberIn_1 rfl ?_
  obtain ⟨a2, e2, t2, h⟩ := zf_at_e h
  obtain ⟨v2, w2, q2, h⟩ := zf_bd_e h
  refine zg_callV_i (mcy := 0) (v := v2) (w1 := w2) (st := [.int x2]) hc_2 (by decide) e2 t2 [] (fun l => zm_Id_numberSigns l D G A F w a2 (v2, w2) q2) (zt_V zx_538 zx_394 zx_395 zx_8 zx_396) rfl hd_Id_numberSigns (by decide) (by decide) (by decide) (Nat.le_of_ble_eq_true rfl) rfl rfl hX dId_numberIn_2 ?_
  refine zg_icmp_ge (tgt := 10) hX dId_numberIn_5 rfl h (fun h => ?_) (fun h => ?_)
  · refine zg_aload_n (x := (some a0)) hX dId_numberIn_10 rfl ?_
    refine zg_getI (ci := 2) (k := 2) hc_2 (by decide) (by decide) hin_2 zx_185 ft_2_2 hX dId_numberIn_11 h (fun a11 h => ?_)
    refine zg_if_eq (tgt := 26) hX dId_numberIn_14 rfl h (fun h => ?_) (fun h => ?_)
    · refine zg_aload_n (x := o1) hX dId_numberIn_26 rfl ?_
      refine zg_iconst hX dId_numberIn_27 (0 : Int32) (by decide) ?_
      refine zg_iald (kd := 103) (by decide) (by decide) hX dId_numberIn_28 h (fun a28 j28 h => ?_)
      refine zg_aload_n (x := o1) hX dId_numberIn_29 rfl ?_
      refine zg_iconst hX dId_numberIn_30 (1 : Int32) (by decide) ?_
      refine zg_iald (kd := 103) (by decide) (by decide) hX dId_numberIn_31 h (fun a31 j31 h => ?_)
      obtain ⟨v32, w32, q32, h⟩ := zf_bd_e h
      refine zg_callS_i (mcy := 0) (v := v32) (w1 := w32) (st := []) [.int (zw_I w2 103 a28 j28), .int (zw_I w2 103 a31 j31)] (fun l => zm_Id_decimal l D G A F w2 (zw_I w2 103 a28 j28) (zw_I w2 103 a31 j31) (v32, w32) q32) (zt_S zx_539 zx_540 zx_8 zx_541) rfl hd_Id_decimal (by decide) (by decide) (by decide) (Nat.le_of_ble_eq_true rfl) rfl rfl hX dId_numberIn_32 ?_
      exact zg_sub (zl_d (zl_d (zl_d (zl_d zl_n)))) (zm_Id_numberIn_j35 hX hr hm w32 v32 h)
    · refine zg_aload_n (x := o1) hX dId_numberIn_17 rfl ?_
      refine zg_iconst hX dId_numberIn_18 (0 : Int32) (by decide) ?_
      refine zg_iald (kd := 103) (by decide) (by decide) hX dId_numberIn_19 h (fun a19 j19 h => ?_)
      refine zg_bipush hX dId_numberIn_20 (32 : Int32) (by decide) ?_
      refine zg_isub hX dId_numberIn_22 ?_
      refine zg_goto (tgt := 35) hX dId_numberIn_23 rfl ?_
      exact zg_sub (zl_d (zl_d (zl_d (zl_d zl_n)))) (zm_Id_numberIn_j35 hX hr hm w2 ((zw_I w2 103 a19 j19) - (32 : Int32)) h)
  · refine zg_iconst hX dId_numberIn_8 (-1 : Int32) (by decide) ?_
    cases h
    exact zg_iret hX hr (by decide) dId_numberIn_9
def zf_Pg_nextStored_j53 (F : Nat) (w : zw_T) (o1 : Option Nat) : Option (Option Nat × zw_T) :=
  some (o1, w)
def zf_Pg_nextStored (F : Nat) (w : zw_T) (a0 : Nat) : Option (Option Nat × zw_T) :=
  zf_at w 7 (some a0) fun a1 =>
  zf_at w 7 (some a0) fun a5 =>
  zf_at w 7 (some a0) fun a9 =>
  zf_ix w 407 (zw_R w 1386 a1 0) (zi_rem ((zw_I w 1387 a5 0) + (zw_I w 1388 a9 0)) (10 : Int32)) fun a16 j16 =>
  zf_let (zw_R w 407 a16 j16) fun y17 =>
  zf_at w 7 (some a0) fun a19 =>
  if (10 : Int32) ≤ (zw_I w 1388 a19 0) then (
  zf_at w 7 (some a0) fun a42 =>
  zf_at w 7 (some a0) fun a50 => zf_let (zw_sI w 1387 a50 0 (zi_rem ((zw_I w 1387 a42 0) + (1 : Int32)) (10 : Int32))) fun w50 =>
  zf_Pg_nextStored_j53 F w50 y17)
  else (
  zf_at w 7 (some a0) fun a29 =>
  zf_at w 7 (some a0) fun a34 => zf_let (zw_sI w 1388 a34 0 ((zw_I w 1388 a29 0) + (1 : Int32))) fun w34 =>
  zf_Pg_nextStored_j53 F w34 y17)
set_option maxHeartbeats 4000000 in
set_option maxRecDepth 100000 in
theorem zm_Pg_nextStored_j53 {X : zg_X} {D : va_G} {G : zw_G} {A : Nat → Prop} {F : Nat} {r : Option Nat × zw_T} (hX : zg_ok X cPg_nextStored RPg 2 0 0 128 0 D G A) (hr : zg_rt X = some (.object "WakingPagers$Stored")) (hm : zg_nm X = yPg_nextStored.name) (w : zw_T) (o1 : Option Nat) (h : zf_Pg_nextStored_j53 F w o1 = some r) : zg X D G A (zg_Q X D G A 128 0 (zr_r r)) 128 0 w 53 [none, some (va_rf o1)] [] := by
  unfold zf_Pg_nextStored_j53 at h
  refine zg_aload_n (x := o1) hX dPg_nextStored_53 rfl ?_
  cases h
  exact zg_aret _ hX hr (Or.inl ⟨_, rfl⟩) (by decide) dPg_nextStored_54
set_option maxHeartbeats 4000000 in
set_option maxRecDepth 100000 in
theorem zm_Pg_nextStored (l : Launch) (D : va_G) (G : zw_G) (A : Nat → Prop) (F : Nat) (w : zw_T) (a0 : Nat) (r : Option Nat × zw_T) (h : zf_Pg_nextStored F w a0 = some r) : zc l yPg_nextStored wsPg_nextStored 0 0 128 0 D G A [.ref a0] w (zr_r r) := by
  refine zc_of (ret := some (.object "WakingPagers$Stored")) [some (va_rf (some a0)), none] (plainFor_of_name (by decide +kernel)) rfl (Nat.le_of_ble_eq_true rfl) rfl rfl (fun X hX hr hm => ?_)
  unfold zf_Pg_nextStored at h
  refine zg_aload_n (x := (some a0)) hX dPg_nextStored_0 rfl ?_
  refine zg_getR (ci := 6) (k := 2) hc_6 (by decide) (by decide) hin_6 zx_277 ft_6_2 hX dPg_nextStored_1 h (fun a1 h => ?_)
  refine zg_aload_n (x := (some a0)) hX dPg_nextStored_4 rfl ?_
  refine zg_getI (ci := 6) (k := 3) hc_6 (by decide) (by decide) hin_6 zx_278 ft_6_3 hX dPg_nextStored_5 h (fun a5 h => ?_)
  refine zg_aload_n (x := (some a0)) hX dPg_nextStored_8 rfl ?_
  refine zg_getI (ci := 6) (k := 4) hc_6 (by decide) (by decide) hin_6 zx_279 ft_6_4 hX dPg_nextStored_9 h (fun a9 h => ?_)
  refine zg_iadd hX dPg_nextStored_12 ?_
  refine zg_bipush hX dPg_nextStored_13 (10 : Int32) (by decide) ?_
  refine zg_irem hX dPg_nextStored_15 (by decide) ?_
  refine zg_aald (ci := 7) (t0 := 7) rfl hX dPg_nextStored_16 h (fun a16 j16 h => ?_)
  refine zg_astore_n hX dPg_nextStored_17 (Nat.le_of_ble_eq_true rfl) rfl h (fun y17 h => ?_)
  refine zg_aload_n (x := (some a0)) hX dPg_nextStored_18 rfl ?_
  refine zg_getI (ci := 6) (k := 4) hc_6 (by decide) (by decide) hin_6 zx_279 ft_6_4 hX dPg_nextStored_19 h (fun a19 h => ?_)
  refine zg_bipush hX dPg_nextStored_22 (10 : Int32) (by decide) ?_
  refine zg_icmp_ge (tgt := 40) hX dPg_nextStored_24 rfl h (fun h => ?_) (fun h => ?_)
  · refine zg_aload_n (x := (some a0)) hX dPg_nextStored_40 rfl ?_
    refine zg_aload_n (x := (some a0)) hX dPg_nextStored_41 rfl ?_
    refine zg_getI (ci := 6) (k := 3) hc_6 (by decide) (by decide) hin_6 zx_278 ft_6_3 hX dPg_nextStored_42 h (fun a42 h => ?_)
    refine zg_iconst hX dPg_nextStored_45 (1 : Int32) (by decide) ?_
    refine zg_iadd hX dPg_nextStored_46 ?_
    refine zg_bipush hX dPg_nextStored_47 (10 : Int32) (by decide) ?_
    refine zg_irem hX dPg_nextStored_49 (by decide) ?_
    refine zg_putI (ci := 6) (k := 3) hc_6 (by decide) (by decide) hin_6 zx_278 ft_6_3 tyPg okPg nmPg rfl (vp_nar_int _) rfl hX dPg_nextStored_50 h (fun w50 h => ?_)
    exact zg_sub (zl_d (zl_k zl_n)) (zm_Pg_nextStored_j53 hX hr hm w50 y17 h)
  · refine zg_aload_n (x := (some a0)) hX dPg_nextStored_27 rfl ?_
    refine zg_dup hX dPg_nextStored_28 rfl ?_
    refine zg_getI (ci := 6) (k := 4) hc_6 (by decide) (by decide) hin_6 zx_279 ft_6_4 hX dPg_nextStored_29 h (fun a29 h => ?_)
    refine zg_iconst hX dPg_nextStored_32 (1 : Int32) (by decide) ?_
    refine zg_iadd hX dPg_nextStored_33 ?_
    refine zg_putI (ci := 6) (k := 4) hc_6 (by decide) (by decide) hin_6 zx_279 ft_6_4 tyPg okPg nmPg rfl (vp_nar_int _) rfl hX dPg_nextStored_34 h (fun w34 h => ?_)
    refine zg_goto (tgt := 53) hX dPg_nextStored_37 rfl ?_
    exact zg_sub (zl_d (zl_k zl_n)) (zm_Pg_nextStored_j53 hX hr hm w34 y17 h)
def zf_Ls_store_j49 (F : Nat) (w : zw_T) (a0 : Nat) (x1 : Int32) (x2 : Int32) (o3 : Option Nat) (x4 : Int32) (x5 : Int32) : Option (zw_T) :=
  zf_at w 5 (some a0) fun a50 =>
  zf_at w 7 (zw_R w 1257 a50 0) fun a53 =>
  zf_bd (zf_Pg_nextStored F w a53) fun v53 w53 =>
  zf_let v53 fun y56 =>
  zf_at w53 3 o3 fun a61 =>
  zf_at w53 8 y56 fun a64 => zf_let (zw_sI w53 1448 a64 0 (zw_I w53 1128 a61 0)) fun w64 =>
  zf_at w64 8 y56 fun a70 => zf_let (zw_sI w64 1449 a70 0 x1) fun w70 =>
  zf_b x2 (
  zf_at w70 8 y56 fun a76 => zf_let (zw_sI w70 1450 a76 0 x2) fun w76 =>
  zf_at w76 8 y56 fun a86 => zf_let (zw_sI w76 1452 a86 0 (x5 - x4)) fun w86 =>
  zf_at w86 5 (some a0) fun a90 =>
  zf_at w86 8 y56 fun a97 =>
  zf_cp w86 103 104 (zw_R w86 1260 a90 0) x4 (zw_R w86 1451 a97 0) (0 : Int32) (x5 - x4) fun w106 =>
  some w106)
def zf_Ls_store_L20 (F : Nat) : Nat → zw_T → Nat → Int32 → Int32 → (Option Nat) → Int32 → Int32 → Option (zw_T)
  | 0, _, _, _, _, _, _, _ => none
  | n + 1, w, a0, x1, x2, o3, x4, x5 =>
  if x5 ≤ x4 then (
  zf_Ls_store_j49 F w a0 x1 x2 o3 x4 x5)
  else (
  zf_at w 5 (some a0) fun a28 =>
  zf_ix w 103 (zw_R w 1260 a28 0) (x5 - (1 : Int32)) fun a35 j35 =>
  zf_at w 3 o3 fun a37 =>
  if (zw_I w 103 a35 j35) = (zw_I w 1136 a37 0) then (
  zf_let (x5 + (-1 : Int32)) fun y43 =>
  zf_Ls_store_L20 F n w a0 x1 x2 o3 x4 y43)
  else (
  zf_Ls_store_j49 F w a0 x1 x2 o3 x4 x5))
def zf_Ls_store (F : Nat) (w : zw_T) (a0 : Nat) (x1 : Int32) (x2 : Int32) : Option (zw_T) :=
  zf_at w 5 (some a0) fun a1 =>
  zf_at w 2 (zw_R w 1259 a1 0) fun a4 =>
  zf_let (zw_R w 1064 a4 0) fun y7 =>
  zf_at w 3 y7 fun a9 =>
  zf_bd (zf_Id_numberSigns F w a9) fun v9 w9 =>
  zf_let v9 fun y12 =>
  zf_at w9 5 (some a0) fun a15 =>
  zf_let (zw_I w9 1261 a15 0) fun y18 =>
  zf_Ls_store_L20 F F w9 a0 x1 x2 y7 y12 y18
set_option maxHeartbeats 4000000 in
set_option maxRecDepth 100000 in
theorem zm_Ls_store_j49 {X : zg_X} {D : va_G} {G : zw_G} {A : Nat → Prop} {F : Nat} {r : zw_T} (hX : zg_ok X cLs_store RLs 7 1 40 128 0 D G A) (hr : zg_rt X = none) (hm : zg_nm X = yLs_store.name) (w : zw_T) (a0 : Nat) (x1 : Int32) (x2 : Int32) (o3 : Option Nat) (x4 : Int32) (x5 : Int32) (h : zf_Ls_store_j49 F w a0 x1 x2 o3 x4 x5 = some r) : zg X D G A (zg_Q X D G A 128 0 (zr_v r)) 128 0 w 49 [some (va_rf (some a0)), some (.int x1), some (.int x2), some (va_rf o3), some (.int x4), some (.int x5), none] [] := by
  unfold zf_Ls_store_j49 at h
  refine zg_aload_n (x := (some a0)) hX dLs_store_49 rfl ?_
  refine zg_getR (ci := 4) (k := 1) hc_4 (by decide) (by decide) hin_4 zx_67 ft_4_1 hX dLs_store_50 h (fun a50 h => ?_)
  obtain ⟨a53, e53, t53, h⟩ := zf_at_e h
  obtain ⟨v53, w53, q53, h⟩ := zf_bd_e h
  refine zg_callV_r (mcy := 0) (v := v53) (w1 := w53) (st := []) hc_6 (by decide) e53 t53 [] (fun l => zm_Pg_nextStored l D G A F w a53 (v53, w53) q53) (zt_V zx_547 zx_548 zx_549 zx_9 zx_550) rfl hd_Pg_nextStored (by decide) (by decide) (by decide) (Nat.le_of_ble_eq_true rfl) rfl rfl hX dLs_store_53 ?_
  refine zg_astore hX dLs_store_56 (Nat.le_of_ble_eq_true rfl) rfl h (fun y56 h => ?_)
  refine zg_aload (x := y56) hX dLs_store_58 rfl ?_
  refine zg_aload_n (x := o3) hX dLs_store_60 rfl ?_
  refine zg_getI (ci := 2) (k := 0) hc_2 (by decide) (by decide) hin_2 zx_182 ft_2_0 hX dLs_store_61 h (fun a61 h => ?_)
  refine zg_putI (ci := 7) (k := 0) hc_7 (by decide) (by decide) hin_7 zx_249 ft_7_0 tySd okSd nmSd rfl (vp_nar_int _) rfl hX dLs_store_64 h (fun w64 h => ?_)
  refine zg_aload (x := y56) hX dLs_store_67 rfl ?_
  refine zg_iload_n hX dLs_store_69 rfl ?_
  refine zg_putI (ci := 7) (k := 1) hc_7 (by decide) (by decide) hin_7 zx_252 ft_7_1 tySd okSd nmSd rfl (vp_nar_int _) rfl hX dLs_store_70 h (fun w70 h => ?_)
  refine zg_aload (x := y56) hX dLs_store_73 rfl ?_
  refine zg_iload_n hX dLs_store_75 rfl ?_
  obtain ⟨hb76, h⟩ := zf_b_e h
  refine zg_putI (ci := 7) (k := 2) hc_7 (by decide) (by decide) hin_7 zx_255 ft_7_2 tySd okSd nmSd rfl (zf_b_n hb76).1 (zf_b_n hb76).2 hX dLs_store_76 h (fun w76 h => ?_)
  refine zg_aload (x := y56) hX dLs_store_79 rfl ?_
  refine zg_iload hX dLs_store_81 rfl ?_
  refine zg_iload hX dLs_store_83 rfl ?_
  refine zg_isub hX dLs_store_85 ?_
  refine zg_putI (ci := 7) (k := 4) hc_7 (by decide) (by decide) hin_7 zx_261 ft_7_4 tySd okSd nmSd rfl (vp_nar_int _) rfl hX dLs_store_86 h (fun w86 h => ?_)
  refine zg_aload_n (x := (some a0)) hX dLs_store_89 rfl ?_
  refine zg_getR (ci := 4) (k := 4) hc_4 (by decide) (by decide) hin_4 zx_70 ft_4_4 hX dLs_store_90 h (fun a90 h => ?_)
  refine zg_iload hX dLs_store_93 rfl ?_
  refine zg_aload (x := y56) hX dLs_store_95 rfl ?_
  refine zg_getR (ci := 7) (k := 3) hc_7 (by decide) (by decide) hin_7 zx_258 ft_7_3 hX dLs_store_97 h (fun a97 h => ?_)
  refine zg_iconst hX dLs_store_100 (0 : Int32) (by decide) ?_
  refine zg_iload hX dLs_store_101 rfl ?_
  refine zg_iload hX dLs_store_103 rfl ?_
  refine zg_isub hX dLs_store_105 ?_
  refine zg_copy (k0 := 103) (k1 := 104) (by decide) (by decide) (by decide) (by decide) zx_551 zx_385 zx_384 zx_15 (by decide) (by decide) rfl hX dLs_store_106 h (fun w106 h => ?_)
  cases h
  exact zg_vret hX hr (by decide) dLs_store_109
set_option maxHeartbeats 4000000 in
set_option maxRecDepth 100000 in
theorem zm_Ls_store_L20 {X : zg_X} {D : va_G} {G : zw_G} {A : Nat → Prop} {F : Nat} {r : zw_T} (hX : zg_ok X cLs_store RLs 7 1 40 128 0 D G A) (hr : zg_rt X = none) (hm : zg_nm X = yLs_store.name) : ∀ (n : Nat) (w : zw_T) (a0 : Nat) (x1 : Int32) (x2 : Int32) (o3 : Option Nat) (x4 : Int32) (x5 : Int32), zf_Ls_store_L20 F n w a0 x1 x2 o3 x4 x5 = some r → zg X D G A (zg_Q X D G A 128 0 (zr_v r)) 128 0 w 20 [some (va_rf (some a0)), some (.int x1), some (.int x2), some (va_rf o3), some (.int x4), some (.int x5), none] [] := by
  intro n
  induction n with
  | zero =>
    intro w a0 x1 x2 o3 x4 x5 h
    unfold zf_Ls_store_L20 at h
    cases h
  | succ n ih =>
    intro w a0 x1 x2 o3 x4 x5 h
    rw [zf_Ls_store_L20] at h
    refine zg_iload hX dLs_store_20 rfl ?_
    refine zg_iload hX dLs_store_22 rfl ?_
    refine zg_icmp_le (tgt := 49) hX dLs_store_24 rfl h (fun h => ?_) (fun h => ?_)
    · exact zg_sub (zl_k (zl_k (zl_k (zl_k (zl_k (zl_k (zl_d zl_n))))))) (zm_Ls_store_j49 hX hr hm w a0 x1 x2 o3 x4 x5 h)
    · refine zg_aload_n (x := (some a0)) hX dLs_store_27 rfl ?_
      refine zg_getR (ci := 4) (k := 4) hc_4 (by decide) (by decide) hin_4 zx_70 ft_4_4 hX dLs_store_28 h (fun a28 h => ?_)
      refine zg_iload hX dLs_store_31 rfl ?_
      refine zg_iconst hX dLs_store_33 (1 : Int32) (by decide) ?_
      refine zg_isub hX dLs_store_34 ?_
      refine zg_iald (kd := 103) (by decide) (by decide) hX dLs_store_35 h (fun a35 j35 h => ?_)
      refine zg_aload_n (x := o3) hX dLs_store_36 rfl ?_
      refine zg_getI (ci := 2) (k := 8) hc_2 (by decide) (by decide) hin_2 zx_201 ft_2_8 hX dLs_store_37 h (fun a37 h => ?_)
      refine zg_icmp_ne (tgt := 49) hX dLs_store_40 rfl h (fun h => ?_) (fun h => ?_)
      · refine zg_iinc hX dLs_store_43 (-1 : Int32) rfl (by decide) (Nat.le_of_ble_eq_true rfl) rfl h (fun y43 h => ?_)
        refine zg_goto (tgt := 20) hX dLs_store_46 rfl ?_
        exact zg_sub (zl_k (zl_k (zl_k (zl_k (zl_k (zl_k (zl_d zl_n))))))) (ih w a0 x1 x2 o3 x4 y43 h)
      · exact zg_sub (zl_k (zl_k (zl_k (zl_k (zl_k (zl_k (zl_d zl_n))))))) (zm_Ls_store_j49 hX hr hm w a0 x1 x2 o3 x4 x5 h)
set_option maxHeartbeats 4000000 in
set_option maxRecDepth 100000 in
theorem zm_Ls_store (l : Launch) (D : va_G) (G : zw_G) (A : Nat → Prop) (F : Nat) (w : zw_T) (a0 : Nat) (x1 : Int32) (x2 : Int32) (r : zw_T) (h : zf_Ls_store F w a0 x1 x2 = some r) : zc l yLs_store wsLs_store 1 40 128 0 D G A [.ref a0, .int x1, .int x2] w (zr_v r) := by
  refine zc_of (ret := none) [some (va_rf (some a0)), some (.int x1), some (.int x2), none, none, none, none] (plainFor_of_name (by decide +kernel)) rfl (Nat.le_of_ble_eq_true rfl) rfl rfl (fun X hX hr hm => ?_)
  unfold zf_Ls_store at h
  refine zg_aload_n (x := (some a0)) hX dLs_store_0 rfl ?_
  refine zg_getR (ci := 4) (k := 3) hc_4 (by decide) (by decide) hin_4 zx_69 ft_4_3 hX dLs_store_1 h (fun a1 h => ?_)
  refine zg_getR (ci := 1) (k := 0) hc_1 (by decide) (by decide) hin_1 zx_339 ft_1_0 hX dLs_store_4 h (fun a4 h => ?_)
  refine zg_astore_n hX dLs_store_7 (Nat.le_of_ble_eq_true rfl) rfl h (fun y7 h => ?_)
  refine zg_aload_n (x := y7) hX dLs_store_8 rfl ?_
  obtain ⟨a9, e9, t9, h⟩ := zf_at_e h
  obtain ⟨v9, w9, q9, h⟩ := zf_bd_e h
  refine zg_callV_i (mcy := 0) (v := v9) (w1 := w9) (st := []) hc_2 (by decide) e9 t9 [] (fun l => zm_Id_numberSigns l D G A F w a9 (v9, w9) q9) (zt_V zx_546 zx_394 zx_395 zx_8 zx_396) rfl hd_Id_numberSigns (by decide) (by decide) (by decide) (Nat.le_of_ble_eq_true rfl) rfl rfl hX dLs_store_9 ?_
  refine zg_istore hX dLs_store_12 (Nat.le_of_ble_eq_true rfl) (zl_fq 3 rfl) h (fun y12 h => ?_)
  refine zg_aload_n (x := (some a0)) hX dLs_store_14 rfl ?_
  refine zg_getI (ci := 4) (k := 5) hc_4 (by decide) (by decide) hin_4 zx_71 ft_4_5 hX dLs_store_15 h (fun a15 h => ?_)
  refine zg_istore hX dLs_store_18 (Nat.le_of_ble_eq_true rfl) rfl h (fun y18 h => ?_)
  exact zg_sub (zl_k (zl_k (zl_k (zl_k (zl_k (zl_k (zl_d zl_n))))))) (zm_Ls_store_L20 hX hr hm F w9 a0 x1 x2 y7 y12 y18 h)
def zf_Ma_floorMod_j18 (F : Nat) (w : zw_T) (x2 : Int32) : Option (Int32 × zw_T) :=
  some (x2, w)
def zf_Ma_floorMod (F : Nat) (w : zw_T) (x0 : Int32) (x1 : Int32) : Option (Int32 × zw_T) :=
  zf_nz x1 (
  zf_let (zi_rem x0 x1) fun y3 =>
  if 0 ≤ (x0 ^^^ x1) then (
  zf_Ma_floorMod_j18 F w y3)
  else (
  if y3 = 0 then (
  zf_Ma_floorMod_j18 F w y3)
  else (
  some ((y3 + x1), w))))
set_option maxHeartbeats 4000000 in
set_option maxRecDepth 100000 in
theorem zm_Ma_floorMod_j18 {X : zg_X} {D : va_G} {G : zw_G} {A : Nat → Prop} {F : Nat} {r : Int32 × zw_T} (hX : zg_ok X cMa_floorMod "java/lang/Math" 3 0 0 128 0 D G A) (hr : zg_rt X = some .int) (hm : zg_nm X = yMa_floorMod.name) (w : zw_T) (x2 : Int32) (h : zf_Ma_floorMod_j18 F w x2 = some r) : zg X D G A (zg_Q X D G A 128 0 (zr_i r)) 128 0 w 18 [none, none, some (.int x2)] [] := by
  unfold zf_Ma_floorMod_j18 at h
  refine zg_iload_n hX dMa_floorMod_18 rfl ?_
  cases h
  exact zg_iret hX hr (by decide) dMa_floorMod_19
set_option maxHeartbeats 4000000 in
set_option maxRecDepth 100000 in
theorem zm_Ma_floorMod (l : Launch) (D : va_G) (G : zw_G) (A : Nat → Prop) (F : Nat) (w : zw_T) (x0 : Int32) (x1 : Int32) (r : Int32 × zw_T) (h : zf_Ma_floorMod F w x0 x1 = some r) : zc l yMa_floorMod wsMa_floorMod 0 0 128 0 D G A [.int x0, .int x1] w (zr_i r) := by
  refine zc_of (ret := some .int) [some (.int x0), some (.int x1), none] (by decide +kernel) rfl (Nat.le_of_ble_eq_true rfl) rfl rfl (fun X hX hr hm => ?_)
  unfold zf_Ma_floorMod at h
  refine zg_iload_n hX dMa_floorMod_0 rfl ?_
  refine zg_iload_n hX dMa_floorMod_1 rfl ?_
  obtain ⟨hz2, h⟩ := zf_nz_e h
  refine zg_irem hX dMa_floorMod_2 hz2 ?_
  refine zg_istore_n hX dMa_floorMod_3 (Nat.le_of_ble_eq_true rfl) rfl h (fun y3 h => ?_)
  refine zg_iload_n hX dMa_floorMod_4 rfl ?_
  refine zg_iload_n hX dMa_floorMod_5 rfl ?_
  refine zg_ixor hX dMa_floorMod_6 ?_
  refine zg_if_ge (tgt := 18) hX dMa_floorMod_7 rfl h (fun h => ?_) (fun h => ?_)
  · exact zg_sub (zl_d (zl_d (zl_k zl_n))) (zm_Ma_floorMod_j18 hX hr hm w y3 h)
  · refine zg_iload_n hX dMa_floorMod_10 rfl ?_
    refine zg_if_eq (tgt := 18) hX dMa_floorMod_11 rfl h (fun h => ?_) (fun h => ?_)
    · exact zg_sub (zl_d (zl_d (zl_k zl_n))) (zm_Ma_floorMod_j18 hX hr hm w y3 h)
    · refine zg_iload_n hX dMa_floorMod_14 rfl ?_
      refine zg_iload_n hX dMa_floorMod_15 rfl ?_
      refine zg_iadd hX dMa_floorMod_16 ?_
      cases h
      exact zg_iret hX hr (by decide) dMa_floorMod_17
def zf_Hd_noteNumber_j89 (F : Nat) (w : zw_T) (a0 : Nat) (x1 : Int32) : Option (zw_T) :=
  zf_at w 2 (some a0) fun a91 =>
  zf_at w 2 (some a0) fun a102 => zf_let (zw_sL w 1065 a102 0 ((zw_L w 1065 a91 0) &&& ((zi_lshl (1 : Int64) x1) ^^^ (-1 : Int64)))) fun w102 =>
  some w102
def zf_Hd_noteNumber_L53 (F : Nat) : Nat → zw_T → Nat → Int32 → Int32 → Int32 → Option (zw_T)
  | 0, _, _, _, _, _ => none
  | n + 1, w, a0, x1, x2, x3 =>
  if x2 ≤ x3 then (
  zf_at w 2 (some a0) fun a86 => zf_let (zw_sI w 1066 a86 0 x1) fun w86 =>
  zf_Hd_noteNumber_j89 F w86 a0 x1)
  else (
  zf_at w 2 (some a0) fun a60 =>
  zf_at w 2 (some a0) fun a65 =>
  zf_at w 2 (some a0) fun a75 => zf_let (zw_sL w 1065 a75 0 ((zw_L w 1065 a60 0) ||| (zi_lshl (1 : Int64) (zi_rem ((zw_I w 1066 a65 0) + x3) (64 : Int32))))) fun w75 =>
  zf_let (x3 + (1 : Int32)) fun y78 =>
  zf_Hd_noteNumber_L53 F n w75 a0 x1 x2 y78)
def zf_Hd_noteNumber_j23 (F : Nat) (w : zw_T) (a0 : Nat) (x1 : Int32) (s0 : Int32) : Option (zw_T) :=
  zf_let s0 fun y23 =>
  zf_at w 2 (some a0) fun a25 =>
  if (zw_I w 1066 a25 0) = (-1 : Int32) then (
  zf_at w 2 (some a0) fun a34 => zf_let (zw_sI w 1066 a34 0 x1) fun w34 =>
  zf_Hd_noteNumber_j89 F w34 a0 x1)
  else (
  if y23 < (1 : Int32) then (
  zf_Hd_noteNumber_j89 F w a0 x1)
  else (
  if (32 : Int32) ≤ y23 then (
  zf_Hd_noteNumber_j89 F w a0 x1)
  else (
  zf_let (1 : Int32) fun y52 =>
  zf_Hd_noteNumber_L53 F F w a0 x1 y23 y52)))
def zf_Hd_noteNumber (F : Nat) (w : zw_T) (a0 : Nat) (x1 : Int32) : Option (zw_T) :=
  zf_at w 2 (some a0) fun a1 =>
  if (zw_I w 1066 a1 0) = (-1 : Int32) then (
  zf_Hd_noteNumber_j23 F w a0 x1 (0 : Int32))
  else (
  zf_at w 2 (some a0) fun a14 =>
  zf_bd (zf_Ma_floorMod F w (x1 - (zw_I w 1066 a14 0)) (64 : Int32)) fun v20 w20 =>
  zf_Hd_noteNumber_j23 F w20 a0 x1 v20)
set_option maxHeartbeats 4000000 in
set_option maxRecDepth 100000 in
theorem zm_Hd_noteNumber_j89 {X : zg_X} {D : va_G} {G : zw_G} {A : Nat → Prop} {F : Nat} {r : zw_T} (hX : zg_ok X cHd_noteNumber RHd 4 1 22 128 0 D G A) (hr : zg_rt X = none) (hm : zg_nm X = yHd_noteNumber.name) (w : zw_T) (a0 : Nat) (x1 : Int32) (h : zf_Hd_noteNumber_j89 F w a0 x1 = some r) : zg X D G A (zg_Q X D G A 128 0 (zr_v r)) 128 0 w 89 [some (va_rf (some a0)), some (.int x1), none, none] [] := by
  unfold zf_Hd_noteNumber_j89 at h
  refine zg_aload_n (x := (some a0)) hX dHd_noteNumber_89 rfl ?_
  refine zg_dup hX dHd_noteNumber_90 rfl ?_
  refine zg_getL (ci := 1) (k := 1) hc_1 (by decide) (by decide) hin_1 zx_340 ft_1_1 hX dHd_noteNumber_91 h (fun a91 h => ?_)
  refine zg_lconst hX dHd_noteNumber_94 (1 : Int64) (by decide) ?_
  refine zg_iload_n hX dHd_noteNumber_95 rfl ?_
  refine zg_lshl hX dHd_noteNumber_96 ?_
  refine zg_ldc2 hX dHd_noteNumber_97 (-1 : Int64) zx_559 ?_
  refine zg_lxor hX dHd_noteNumber_100 ?_
  refine zg_land hX dHd_noteNumber_101 ?_
  refine zg_putL (ci := 1) (k := 1) hc_1 (by decide) (by decide) hin_1 zx_340 ft_1_1 tyHd okHd nmHd rfl rfl rfl hX dHd_noteNumber_102 h (fun w102 h => ?_)
  cases h
  exact zg_vret hX hr (by decide) dHd_noteNumber_105
set_option maxHeartbeats 4000000 in
set_option maxRecDepth 100000 in
theorem zm_Hd_noteNumber_L53 {X : zg_X} {D : va_G} {G : zw_G} {A : Nat → Prop} {F : Nat} {r : zw_T} (hX : zg_ok X cHd_noteNumber RHd 4 1 22 128 0 D G A) (hr : zg_rt X = none) (hm : zg_nm X = yHd_noteNumber.name) : ∀ (n : Nat) (w : zw_T) (a0 : Nat) (x1 : Int32) (x2 : Int32) (x3 : Int32), zf_Hd_noteNumber_L53 F n w a0 x1 x2 x3 = some r → zg X D G A (zg_Q X D G A 128 0 (zr_v r)) 128 0 w 53 [some (va_rf (some a0)), some (.int x1), some (.int x2), some (.int x3)] [] := by
  intro n
  induction n with
  | zero =>
    intro w a0 x1 x2 x3 h
    unfold zf_Hd_noteNumber_L53 at h
    cases h
  | succ n ih =>
    intro w a0 x1 x2 x3 h
    rw [zf_Hd_noteNumber_L53] at h
    refine zg_iload_n hX dHd_noteNumber_53 rfl ?_
    refine zg_iload_n hX dHd_noteNumber_54 rfl ?_
    refine zg_icmp_ge (tgt := 84) hX dHd_noteNumber_55 rfl h (fun h => ?_) (fun h => ?_)
    · refine zg_aload_n (x := (some a0)) hX dHd_noteNumber_84 rfl ?_
      refine zg_iload_n hX dHd_noteNumber_85 rfl ?_
      refine zg_putI (ci := 1) (k := 2) hc_1 (by decide) (by decide) hin_1 zx_342 ft_1_2 tyHd okHd nmHd rfl (vp_nar_int _) rfl hX dHd_noteNumber_86 h (fun w86 h => ?_)
      exact zg_sub (zl_k (zl_k (zl_d (zl_d zl_n)))) (zm_Hd_noteNumber_j89 hX hr hm w86 a0 x1 h)
    · refine zg_aload_n (x := (some a0)) hX dHd_noteNumber_58 rfl ?_
      refine zg_dup hX dHd_noteNumber_59 rfl ?_
      refine zg_getL (ci := 1) (k := 1) hc_1 (by decide) (by decide) hin_1 zx_340 ft_1_1 hX dHd_noteNumber_60 h (fun a60 h => ?_)
      refine zg_lconst hX dHd_noteNumber_63 (1 : Int64) (by decide) ?_
      refine zg_aload_n (x := (some a0)) hX dHd_noteNumber_64 rfl ?_
      refine zg_getI (ci := 1) (k := 2) hc_1 (by decide) (by decide) hin_1 zx_342 ft_1_2 hX dHd_noteNumber_65 h (fun a65 h => ?_)
      refine zg_iload_n hX dHd_noteNumber_68 rfl ?_
      refine zg_iadd hX dHd_noteNumber_69 ?_
      refine zg_bipush hX dHd_noteNumber_70 (64 : Int32) (by decide) ?_
      refine zg_irem hX dHd_noteNumber_72 (by decide) ?_
      refine zg_lshl hX dHd_noteNumber_73 ?_
      refine zg_lor hX dHd_noteNumber_74 ?_
      refine zg_putL (ci := 1) (k := 1) hc_1 (by decide) (by decide) hin_1 zx_340 ft_1_1 tyHd okHd nmHd rfl rfl rfl hX dHd_noteNumber_75 h (fun w75 h => ?_)
      refine zg_iinc hX dHd_noteNumber_78 (1 : Int32) rfl (by decide) (Nat.le_of_ble_eq_true rfl) rfl h (fun y78 h => ?_)
      refine zg_goto (tgt := 53) hX dHd_noteNumber_81 rfl ?_
      exact zg_sub (zl_k (zl_k (zl_k (zl_k zl_n)))) (ih w75 a0 x1 x2 y78 h)
set_option maxHeartbeats 4000000 in
set_option maxRecDepth 100000 in
theorem zm_Hd_noteNumber_j23 {X : zg_X} {D : va_G} {G : zw_G} {A : Nat → Prop} {F : Nat} {r : zw_T} (hX : zg_ok X cHd_noteNumber RHd 4 1 22 128 0 D G A) (hr : zg_rt X = none) (hm : zg_nm X = yHd_noteNumber.name) (w : zw_T) (a0 : Nat) (x1 : Int32) (s0 : Int32) (h : zf_Hd_noteNumber_j23 F w a0 x1 s0 = some r) : zg X D G A (zg_Q X D G A 128 0 (zr_v r)) 128 0 w 23 [some (va_rf (some a0)), some (.int x1), none, none] [.int s0] := by
  unfold zf_Hd_noteNumber_j23 at h
  refine zg_istore_n hX dHd_noteNumber_23 (Nat.le_of_ble_eq_true rfl) rfl h (fun y23 h => ?_)
  refine zg_aload_n (x := (some a0)) hX dHd_noteNumber_24 rfl ?_
  refine zg_getI (ci := 1) (k := 2) hc_1 (by decide) (by decide) hin_1 zx_342 ft_1_2 hX dHd_noteNumber_25 h (fun a25 h => ?_)
  refine zg_iconst hX dHd_noteNumber_28 (-1 : Int32) (by decide) ?_
  refine zg_icmp_ne (tgt := 40) hX dHd_noteNumber_29 rfl h (fun h => ?_) (fun h => ?_)
  · refine zg_aload_n (x := (some a0)) hX dHd_noteNumber_32 rfl ?_
    refine zg_iload_n hX dHd_noteNumber_33 rfl ?_
    refine zg_putI (ci := 1) (k := 2) hc_1 (by decide) (by decide) hin_1 zx_342 ft_1_2 tyHd okHd nmHd rfl (vp_nar_int _) rfl hX dHd_noteNumber_34 h (fun w34 h => ?_)
    refine zg_goto (tgt := 89) hX dHd_noteNumber_37 rfl ?_
    exact zg_sub (zl_k (zl_k (zl_d (zl_d zl_n)))) (zm_Hd_noteNumber_j89 hX hr hm w34 a0 x1 h)
  · refine zg_iload_n hX dHd_noteNumber_40 rfl ?_
    refine zg_iconst hX dHd_noteNumber_41 (1 : Int32) (by decide) ?_
    refine zg_icmp_lt (tgt := 89) hX dHd_noteNumber_42 rfl h (fun h => ?_) (fun h => ?_)
    · exact zg_sub (zl_k (zl_k (zl_d (zl_d zl_n)))) (zm_Hd_noteNumber_j89 hX hr hm w a0 x1 h)
    · refine zg_iload_n hX dHd_noteNumber_45 rfl ?_
      refine zg_bipush hX dHd_noteNumber_46 (32 : Int32) (by decide) ?_
      refine zg_icmp_ge (tgt := 89) hX dHd_noteNumber_48 rfl h (fun h => ?_) (fun h => ?_)
      · exact zg_sub (zl_k (zl_k (zl_d (zl_d zl_n)))) (zm_Hd_noteNumber_j89 hX hr hm w a0 x1 h)
      · refine zg_iconst hX dHd_noteNumber_51 (1 : Int32) (by decide) ?_
        refine zg_istore_n hX dHd_noteNumber_52 (Nat.le_of_ble_eq_true rfl) rfl h (fun y52 h => ?_)
        exact zg_sub (zl_k (zl_k (zl_k (zl_k zl_n)))) (zm_Hd_noteNumber_L53 hX hr hm F w a0 x1 y23 y52 h)
set_option maxHeartbeats 4000000 in
set_option maxRecDepth 100000 in
theorem zm_Hd_noteNumber (l : Launch) (D : va_G) (G : zw_G) (A : Nat → Prop) (F : Nat) (w : zw_T) (a0 : Nat) (x1 : Int32) (r : zw_T) (h : zf_Hd_noteNumber F w a0 x1 = some r) : zc l yHd_noteNumber wsHd_noteNumber 1 22 128 0 D G A [.ref a0, .int x1] w (zr_v r) := by
  refine zc_of (ret := none) [some (va_rf (some a0)), some (.int x1), none, none] (plainFor_of_name (by decide +kernel)) rfl (Nat.le_of_ble_eq_true rfl) rfl rfl (fun X hX hr hm => ?_)
  unfold zf_Hd_noteNumber at h
  refine zg_aload_n (x := (some a0)) hX dHd_noteNumber_0 rfl ?_
  refine zg_getI (ci := 1) (k := 2) hc_1 (by decide) (by decide) hin_1 zx_342 ft_1_2 hX dHd_noteNumber_1 h (fun a1 h => ?_)
  refine zg_iconst hX dHd_noteNumber_4 (-1 : Int32) (by decide) ?_
  refine zg_icmp_ne (tgt := 12) hX dHd_noteNumber_5 rfl h (fun h => ?_) (fun h => ?_)
  · refine zg_iconst hX dHd_noteNumber_8 (0 : Int32) (by decide) ?_
    refine zg_goto (tgt := 23) hX dHd_noteNumber_9 rfl ?_
    exact zg_sub (zl_k (zl_k (zl_d (zl_d zl_n)))) (zm_Hd_noteNumber_j23 hX hr hm w a0 x1 (0 : Int32) h)
  · refine zg_iload_n hX dHd_noteNumber_12 rfl ?_
    refine zg_aload_n (x := (some a0)) hX dHd_noteNumber_13 rfl ?_
    refine zg_getI (ci := 1) (k := 2) hc_1 (by decide) (by decide) hin_1 zx_342 ft_1_2 hX dHd_noteNumber_14 h (fun a14 h => ?_)
    refine zg_isub hX dHd_noteNumber_17 ?_
    refine zg_bipush hX dHd_noteNumber_18 (64 : Int32) (by decide) ?_
    obtain ⟨v20, w20, q20, h⟩ := zf_bd_e h
    refine zg_callS_i (mcy := 0) (v := v20) (w1 := w20) (st := []) [.int (x1 - (zw_I w 1066 a14 0)), .int (64 : Int32)] (fun l => zm_Ma_floorMod l D G A F w (x1 - (zw_I w 1066 a14 0)) (64 : Int32) (v20, w20) q20) (zt_S zx_556 zx_557 zx_14 zx_558) rfl hd_Ma_floorMod (by decide) (by decide) (by decide) (Nat.le_of_ble_eq_true rfl) rfl rfl hX dHd_noteNumber_20 ?_
    exact zg_sub (zl_k (zl_k (zl_d (zl_d zl_n)))) (zm_Hd_noteNumber_j23 hX hr hm w20 a0 x1 v20 h)
def zf_Ls_endMessage_j72 (F : Nat) (w : zw_T) (a0 : Nat) : Option (zw_T) :=
  zf_at w 5 (some a0) fun a74 => zf_let (zw_sR w 1259 a74 0 none) fun w74 =>
  some w74
def zf_Ls_endMessage (F : Nat) (w : zw_T) (a0 : Nat) (x1 : Int32) : Option (zw_T) :=
  zf_at w 5 (some a0) fun a1 =>
  if (zw_R w 1259 a1 0) = none then (
  some w)
  else (
  zf_at w 5 (some a0) fun a9 =>
  zf_at w 2 (zw_R w 1259 a9 0) fun a12 =>
  zf_at w 5 (some a0) fun a16 =>
  zf_at w 5 (some a0) fun a20 =>
  zf_at w 3 (zw_R w 1064 a12 0) fun a23 =>
  zf_bd (zf_Id_numberIn F w a23 (zw_R w 1260 a16 0) (zw_I w 1261 a20 0)) fun v23 w23 =>
  zf_let v23 fun y26 =>
  if y26 = (-1 : Int32) then (
  zf_at w23 5 (some a0) fun a33 =>
  zf_at w23 7 (zw_R w23 1257 a33 0) fun a37 =>
  zf_at w23 7 (zw_R w23 1257 a33 0) fun a42 => zf_let (zw_sI w23 1392 a42 0 ((zw_I w23 1392 a37 0) + (1 : Int32))) fun w42 =>
  zf_Ls_endMessage_j72 F w42 a0)
  else (
  zf_at w23 5 (some a0) fun a51 =>
  zf_bv (zf_Ls_store F w23 a51 y26 x1) fun w51 =>
  zf_at w51 5 (some a0) fun a55 =>
  zf_at w51 2 (zw_R w51 1259 a55 0) fun a59 =>
  zf_bv (zf_Hd_noteNumber F w51 a59 y26) fun w59 =>
  zf_at w59 5 (some a0) fun a64 =>
  zf_at w59 5 (some a0) fun a69 => zf_let (zw_sI w59 1258 a69 0 ((zw_I w59 1258 a64 0) + (1 : Int32))) fun w69 =>
  zf_Ls_endMessage_j72 F w69 a0))
set_option maxHeartbeats 4000000 in
set_option maxRecDepth 100000 in
theorem zm_Ls_endMessage_j72 {X : zg_X} {D : va_G} {G : zw_G} {A : Nat → Prop} {F : Nat} {r : zw_T} (hX : zg_ok X cLs_endMessage RLs 3 2 66 128 0 D G A) (hr : zg_rt X = none) (hm : zg_nm X = yLs_endMessage.name) (w : zw_T) (a0 : Nat) (h : zf_Ls_endMessage_j72 F w a0 = some r) : zg X D G A (zg_Q X D G A 128 0 (zr_v r)) 128 0 w 72 [some (va_rf (some a0)), none, none] [] := by
  unfold zf_Ls_endMessage_j72 at h
  refine zg_aload_n (x := (some a0)) hX dLs_endMessage_72 rfl ?_
  refine zg_null hX dLs_endMessage_73 ?_
  refine zg_putR (ci := 4) (k := 3) hc_4 (by decide) (by decide) hin_4 zx_69 ft_4_3 tyLs okLs nmLs rfl (zv_no _ _).1 (zv_no _ _).2 hX dLs_endMessage_74 h (fun w74 h => ?_)
  cases h
  exact zg_vret hX hr (by decide) dLs_endMessage_77
set_option maxHeartbeats 4000000 in
set_option maxRecDepth 100000 in
theorem zm_Ls_endMessage (l : Launch) (D : va_G) (G : zw_G) (A : Nat → Prop) (F : Nat) (w : zw_T) (a0 : Nat) (x1 : Int32) (r : zw_T) (h : zf_Ls_endMessage F w a0 x1 = some r) : zc l yLs_endMessage wsLs_endMessage 2 66 128 0 D G A [.ref a0, .int x1] w (zr_v r) := by
  refine zc_of (ret := none) [some (va_rf (some a0)), some (.int x1), none] (plainFor_of_name (by decide +kernel)) rfl (Nat.le_of_ble_eq_true rfl) rfl rfl (fun X hX hr hm => ?_)
  unfold zf_Ls_endMessage at h
  refine zg_aload_n (x := (some a0)) hX dLs_endMessage_0 rfl ?_
  refine zg_getR (ci := 4) (k := 3) hc_4 (by decide) (by decide) hin_4 zx_69 ft_4_3 hX dLs_endMessage_1 h (fun a1 h => ?_)
  refine zg_ifnonnull (tgt := 8) hX dLs_endMessage_4 rfl h (fun h => ?_) (fun h => ?_)
  · cases h
    exact zg_vret hX hr (by decide) dLs_endMessage_7
  · refine zg_aload_n (x := (some a0)) hX dLs_endMessage_8 rfl ?_
    refine zg_getR (ci := 4) (k := 3) hc_4 (by decide) (by decide) hin_4 zx_69 ft_4_3 hX dLs_endMessage_9 h (fun a9 h => ?_)
    refine zg_getR (ci := 1) (k := 0) hc_1 (by decide) (by decide) hin_1 zx_339 ft_1_0 hX dLs_endMessage_12 h (fun a12 h => ?_)
    refine zg_aload_n (x := (some a0)) hX dLs_endMessage_15 rfl ?_
    refine zg_getR (ci := 4) (k := 4) hc_4 (by decide) (by decide) hin_4 zx_70 ft_4_4 hX dLs_endMessage_16 h (fun a16 h => ?_)
    refine zg_aload_n (x := (some a0)) hX dLs_endMessage_19 rfl ?_
    refine zg_getI (ci := 4) (k := 5) hc_4 (by decide) (by decide) hin_4 zx_71 ft_4_5 hX dLs_endMessage_20 h (fun a20 h => ?_)
    obtain ⟨a23, e23, t23, h⟩ := zf_at_e h
    obtain ⟨v23, w23, q23, h⟩ := zf_bd_e h
    refine zg_callV_i (mcy := 0) (v := v23) (w1 := w23) (st := []) hc_2 (by decide) e23 t23 [va_rf (zw_R w 1260 a16 0), .int (zw_I w 1261 a20 0)] (fun l => zm_Id_numberIn l D G A F w a23 (zw_R w 1260 a16 0) (zw_I w 1261 a20 0) (v23, w23) q23) (zt_V zx_534 zx_535 zx_536 zx_8 zx_537) rfl hd_Id_numberIn (by decide) (by decide) (by decide) (Nat.le_of_ble_eq_true rfl) rfl rfl hX dLs_endMessage_23 ?_
    refine zg_istore_n hX dLs_endMessage_26 (Nat.le_of_ble_eq_true rfl) rfl h (fun y26 h => ?_)
    refine zg_iload_n hX dLs_endMessage_27 rfl ?_
    refine zg_iconst hX dLs_endMessage_28 (-1 : Int32) (by decide) ?_
    refine zg_icmp_ne (tgt := 48) hX dLs_endMessage_29 rfl h (fun h => ?_) (fun h => ?_)
    · refine zg_aload_n (x := (some a0)) hX dLs_endMessage_32 rfl ?_
      refine zg_getR (ci := 4) (k := 1) hc_4 (by decide) (by decide) hin_4 zx_67 ft_4_1 hX dLs_endMessage_33 h (fun a33 h => ?_)
      refine zg_dup hX dLs_endMessage_36 (zv_cat _) ?_
      refine zg_getI (ci := 6) (k := 8) hc_6 (by decide) (by decide) hin_6 zx_291 ft_6_8 hX dLs_endMessage_37 h (fun a37 h => ?_)
      refine zg_iconst hX dLs_endMessage_40 (1 : Int32) (by decide) ?_
      refine zg_iadd hX dLs_endMessage_41 ?_
      refine zg_putI (ci := 6) (k := 8) hc_6 (by decide) (by decide) hin_6 zx_291 ft_6_8 tyPg okPg nmPg rfl (vp_nar_int _) rfl hX dLs_endMessage_42 h (fun w42 h => ?_)
      refine zg_goto (tgt := 72) hX dLs_endMessage_45 rfl ?_
      exact zg_sub (zl_k (zl_d (zl_d zl_n))) (zm_Ls_endMessage_j72 hX hr hm w42 a0 h)
    · refine zg_aload_n (x := (some a0)) hX dLs_endMessage_48 rfl ?_
      refine zg_iload_n hX dLs_endMessage_49 rfl ?_
      refine zg_iload_n hX dLs_endMessage_50 rfl ?_
      obtain ⟨a51, e51, t51, h⟩ := zf_at_e h
      obtain ⟨w51, q51, h⟩ := zf_bv_e h
      refine zg_callV_v (mcy := 0) (w1 := w51) (st := []) hc_4 (by decide) e51 t51 [.int y26, .int x1] (fun l => zm_Ls_store l D G A F w23 a51 y26 x1 w51 q51) (zt_V zx_542 zx_544 zs_11 zx_4 zx_545) rfl hd_Ls_store (by decide) (by decide) (by decide) (Nat.le_of_ble_eq_true rfl) rfl rfl hX dLs_endMessage_51 ?_
      refine zg_aload_n (x := (some a0)) hX dLs_endMessage_54 rfl ?_
      refine zg_getR (ci := 4) (k := 3) hc_4 (by decide) (by decide) hin_4 zx_69 ft_4_3 hX dLs_endMessage_55 h (fun a55 h => ?_)
      refine zg_iload_n hX dLs_endMessage_58 rfl ?_
      obtain ⟨a59, e59, t59, h⟩ := zf_at_e h
      obtain ⟨w59, q59, h⟩ := zf_bv_e h
      refine zg_callV_v (mcy := 0) (w1 := w59) (st := []) hc_1 (by decide) e59 t59 [.int y26] (fun l => zm_Hd_noteNumber l D G A F w51 a59 y26 w59 q59) (zt_V zx_552 zx_553 zx_554 zx_11 zx_555) rfl hd_Hd_noteNumber (by decide) (by decide) (by decide) (Nat.le_of_ble_eq_true rfl) rfl rfl hX dLs_endMessage_59 ?_
      refine zg_aload_n (x := (some a0)) hX dLs_endMessage_62 rfl ?_
      refine zg_dup hX dLs_endMessage_63 rfl ?_
      refine zg_getI (ci := 4) (k := 2) hc_4 (by decide) (by decide) hin_4 zx_68 ft_4_2 hX dLs_endMessage_64 h (fun a64 h => ?_)
      refine zg_iconst hX dLs_endMessage_67 (1 : Int32) (by decide) ?_
      refine zg_iadd hX dLs_endMessage_68 ?_
      refine zg_putI (ci := 4) (k := 2) hc_4 (by decide) (by decide) hin_4 zx_68 ft_4_2 tyLs okLs nmLs rfl (vp_nar_int _) rfl hX dLs_endMessage_69 h (fun w69 h => ?_)
      exact zg_sub (zl_k (zl_d (zl_d zl_n))) (zm_Ls_endMessage_j72 hX hr hm w69 a0 h)
def zf_Ls_addSign (F : Nat) (w : zw_T) (a0 : Nat) (x1 : Int32) : Option (zw_T) :=
  zf_at w 5 (some a0) fun a1 =>
  if (22 : Int32) ≤ (zw_I w 1261 a1 0) then (
  some w)
  else (
  zf_at w 5 (some a0) fun a10 =>
  zf_at w 5 (some a0) fun a14 =>
  zf_ix w 103 (zw_R w 1260 a10 0) (zw_I w 1261 a14 0) fun a18 j18 => zf_let (zw_sI w 103 a18 j18 x1) fun w18 =>
  zf_at w18 5 (some a0) fun a21 =>
  zf_at w18 5 (some a0) fun a26 => zf_let (zw_sI w18 1261 a26 0 ((zw_I w18 1261 a21 0) + (1 : Int32))) fun w26 =>
  some w26)
set_option maxHeartbeats 4000000 in
set_option maxRecDepth 100000 in
theorem zm_Ls_addSign (l : Launch) (D : va_G) (G : zw_G) (A : Nat → Prop) (F : Nat) (w : zw_T) (a0 : Nat) (x1 : Int32) (r : zw_T) (h : zf_Ls_addSign F w a0 x1 = some r) : zc l yLs_addSign wsLs_addSign 0 0 128 0 D G A [.ref a0, .int x1] w (zr_v r) := by
  refine zc_of (ret := none) [some (va_rf (some a0)), some (.int x1)] (plainFor_of_name (by decide +kernel)) rfl (Nat.le_of_ble_eq_true rfl) rfl rfl (fun X hX hr hm => ?_)
  unfold zf_Ls_addSign at h
  refine zg_aload_n (x := (some a0)) hX dLs_addSign_0 rfl ?_
  refine zg_getI (ci := 4) (k := 5) hc_4 (by decide) (by decide) hin_4 zx_71 ft_4_5 hX dLs_addSign_1 h (fun a1 h => ?_)
  refine zg_bipush hX dLs_addSign_4 (22 : Int32) (by decide) ?_
  refine zg_icmp_ge (tgt := 29) hX dLs_addSign_6 rfl h (fun h => ?_) (fun h => ?_)
  · cases h
    exact zg_vret hX hr (by decide) dLs_addSign_29
  · refine zg_aload_n (x := (some a0)) hX dLs_addSign_9 rfl ?_
    refine zg_getR (ci := 4) (k := 4) hc_4 (by decide) (by decide) hin_4 zx_70 ft_4_4 hX dLs_addSign_10 h (fun a10 h => ?_)
    refine zg_aload_n (x := (some a0)) hX dLs_addSign_13 rfl ?_
    refine zg_getI (ci := 4) (k := 5) hc_4 (by decide) (by decide) hin_4 zx_71 ft_4_5 hX dLs_addSign_14 h (fun a14 h => ?_)
    refine zg_iload_n hX dLs_addSign_17 rfl ?_
    refine zg_iast (kd := 103) (by decide) (by decide) hX dLs_addSign_18 h (fun w18 h => ?_)
    refine zg_aload_n (x := (some a0)) hX dLs_addSign_19 rfl ?_
    refine zg_dup hX dLs_addSign_20 rfl ?_
    refine zg_getI (ci := 4) (k := 5) hc_4 (by decide) (by decide) hin_4 zx_71 ft_4_5 hX dLs_addSign_21 h (fun a21 h => ?_)
    refine zg_iconst hX dLs_addSign_24 (1 : Int32) (by decide) ?_
    refine zg_iadd hX dLs_addSign_25 ?_
    refine zg_putI (ci := 4) (k := 5) hc_4 (by decide) (by decide) hin_4 zx_71 ft_4_5 tyLs okLs nmLs rfl (vp_nar_int _) rfl hX dLs_addSign_26 h (fun w26 h => ?_)
    cases h
    exact zg_vret hX hr (by decide) dLs_addSign_29
