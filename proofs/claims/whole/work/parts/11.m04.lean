def zf_Mo_add_j31 (F : Nat) (k3 : zw_T → Nat → Int32 → Int32 → Option (zw_T)) (w : zw_T) (a0 : Nat) (x1 : Int32) (x2 : Int32) : Option (zw_T) :=
  zf_at w 10 (some a0) fun a33 =>
  zf_at w 10 (some a0) fun a38 => zf_let (zw_sI w 1610 a38 0 ((zw_I w 1610 a33 0) + (1 : Int32))) fun w38 =>
  zf_let (x2 + (-1 : Int32)) fun y41 =>
  k3 w38 a0 x1 y41
def zf_Mo_add_L3 (F : Nat) : Nat → zw_T → Nat → Int32 → Int32 → Option (zw_T)
  | 0, _, _, _, _ => none
  | n + 1, w, a0, x1, x2 =>
  if x2 < 0 then (
  some w)
  else (
  zf_at w 10 (some a0) fun a8 =>
  if (160 : Int32) ≤ (zw_I w 1610 a8 0) then (
  zf_Mo_add_j31 F (zf_Mo_add_L3 F n) w a0 x1 x2)
  else (
  zf_at w 10 (some a0) fun a18 =>
  zf_at w 10 (some a0) fun a22 =>
  zf_ix w 140 (zw_R w 1609 a18 0) (zw_I w 1610 a22 0) fun a30 j30 => zf_let (zw_sI w 140 a30 j30 ((zi_shr x1 x2) &&& (1 : Int32))) fun w30 =>
  zf_Mo_add_j31 F (zf_Mo_add_L3 F n) w30 a0 x1 x2))
def zf_Mo_add (F : Nat) (w : zw_T) (a0 : Nat) (x1 : Int32) : Option (zw_T) :=
  zf_let (19 : Int32) fun y2 =>
  zf_Mo_add_L3 F F w a0 x1 y2
set_option maxHeartbeats 4000000 in
set_option maxRecDepth 100000 in
theorem zm_Mo_add_j31 {X : zg_X} {D : va_G} {G : zw_G} {A : Nat → Prop} {F : Nat} {k3 : zw_T → Nat → Int32 → Int32 → Option (zw_T)} {r : zw_T} (hX : zg_ok X cMo_add RMo 3 0 0 128 0 D G A) (hr : zg_rt X = none) (hm : zg_nm X = yMo_add.name) (hk3 : ∀ (w : zw_T) (a0 : Nat) (x1 : Int32) (x2 : Int32), k3 w a0 x1 x2 = some r → zg X D G A (zg_Q X D G A 128 0 (zr_v r)) 128 0 w 3 [some (va_rf (some a0)), some (.int x1), some (.int x2)] []) (w : zw_T) (a0 : Nat) (x1 : Int32) (x2 : Int32) (h : zf_Mo_add_j31 F k3 w a0 x1 x2 = some r) : zg X D G A (zg_Q X D G A 128 0 (zr_v r)) 128 0 w 31 [some (va_rf (some a0)), some (.int x1), some (.int x2)] [] := by
  unfold zf_Mo_add_j31 at h
  refine zg_aload_n (x := (some a0)) hX dMo_add_31 rfl ?_
  refine zg_dup hX dMo_add_32 rfl ?_
  refine zg_getI (ci := 9) (k := 34) hc_9 (by decide) (by decide) hin_9 zx_654 ft_9_34 hX dMo_add_33 h (fun a33 h => ?_)
  refine zg_iconst hX dMo_add_36 (1 : Int32) (by decide) ?_
  refine zg_iadd hX dMo_add_37 ?_
  refine zg_putI (ci := 9) (k := 34) hc_9 (by decide) (by decide) hin_9 zx_654 ft_9_34 tyMo okMo nmMo rfl (vp_nar_int _) rfl hX dMo_add_38 h (fun w38 h => ?_)
  refine zg_iinc hX dMo_add_41 (-1 : Int32) rfl (by decide) (Nat.le_of_ble_eq_true rfl) rfl h (fun y41 h => ?_)
  refine zg_goto (tgt := 3) hX dMo_add_44 rfl ?_
  exact zg_sub (zl_k (zl_k (zl_k zl_n))) (hk3 w38 a0 x1 y41 h)
set_option maxHeartbeats 4000000 in
set_option maxRecDepth 100000 in
theorem zm_Mo_add_L3 {X : zg_X} {D : va_G} {G : zw_G} {A : Nat → Prop} {F : Nat} {r : zw_T} (hX : zg_ok X cMo_add RMo 3 0 0 128 0 D G A) (hr : zg_rt X = none) (hm : zg_nm X = yMo_add.name) : ∀ (n : Nat) (w : zw_T) (a0 : Nat) (x1 : Int32) (x2 : Int32), zf_Mo_add_L3 F n w a0 x1 x2 = some r → zg X D G A (zg_Q X D G A 128 0 (zr_v r)) 128 0 w 3 [some (va_rf (some a0)), some (.int x1), some (.int x2)] [] := by
  intro n
  induction n with
  | zero =>
    intro w a0 x1 x2 h
    unfold zf_Mo_add_L3 at h
    cases h
  | succ n ih =>
    intro w a0 x1 x2 h
    rw [zf_Mo_add_L3] at h
    refine zg_iload_n hX dMo_add_3 rfl ?_
    refine zg_if_lt (tgt := 47) hX dMo_add_4 rfl h (fun h => ?_) (fun h => ?_)
    · cases h
      exact zg_vret hX hr (by decide) dMo_add_47
    · refine zg_aload_n (x := (some a0)) hX dMo_add_7 rfl ?_
      refine zg_getI (ci := 9) (k := 34) hc_9 (by decide) (by decide) hin_9 zx_654 ft_9_34 hX dMo_add_8 h (fun a8 h => ?_)
      refine zg_sipush hX dMo_add_11 (160 : Int32) (by decide) ?_
      refine zg_icmp_ge (tgt := 31) hX dMo_add_14 rfl h (fun h => ?_) (fun h => ?_)
      · exact zg_sub (zl_k (zl_k (zl_k zl_n))) (zm_Mo_add_j31 hX hr hm ih w a0 x1 x2 h)
      · refine zg_aload_n (x := (some a0)) hX dMo_add_17 rfl ?_
        refine zg_getR (ci := 9) (k := 33) hc_9 (by decide) (by decide) hin_9 zx_653 ft_9_33 hX dMo_add_18 h (fun a18 h => ?_)
        refine zg_aload_n (x := (some a0)) hX dMo_add_21 rfl ?_
        refine zg_getI (ci := 9) (k := 34) hc_9 (by decide) (by decide) hin_9 zx_654 ft_9_34 hX dMo_add_22 h (fun a22 h => ?_)
        refine zg_iload_n hX dMo_add_25 rfl ?_
        refine zg_iload_n hX dMo_add_26 rfl ?_
        refine zg_ishr hX dMo_add_27 ?_
        refine zg_iconst hX dMo_add_28 (1 : Int32) (by decide) ?_
        refine zg_iand hX dMo_add_29 ?_
        refine zg_iast (kd := 140) (by decide) (by decide) hX dMo_add_30 h (fun w30 h => ?_)
        exact zg_sub (zl_k (zl_k (zl_k zl_n))) (zm_Mo_add_j31 hX hr hm ih w30 a0 x1 x2 h)
set_option maxHeartbeats 4000000 in
set_option maxRecDepth 100000 in
theorem zm_Mo_add (l : Launch) (D : va_G) (G : zw_G) (A : Nat → Prop) (F : Nat) (w : zw_T) (a0 : Nat) (x1 : Int32) (r : zw_T) (h : zf_Mo_add F w a0 x1 = some r) : zc l yMo_add wsMo_add 0 0 128 0 D G A [.ref a0, .int x1] w (zr_v r) := by
  refine zc_of (ret := none) [some (va_rf (some a0)), some (.int x1), none] (plainFor_of_name (by decide +kernel)) rfl (Nat.le_of_ble_eq_true rfl) rfl rfl (fun X hX hr hm => ?_)
  unfold zf_Mo_add at h
  refine zg_bipush hX dMo_add_0 (19 : Int32) (by decide) ?_
  refine zg_istore_n hX dMo_add_2 (Nat.le_of_ble_eq_true rfl) rfl h (fun y2 h => ?_)
  exact zg_sub (zl_k (zl_k (zl_k zl_n))) (zm_Mo_add_L3 hX hr hm F w a0 x1 y2 h)
def zf_Mo_addressData_j25 (F : Nat) (w : zw_T) (s0 : Int32) (s1 : Int32) : Option (Int32 × zw_T) :=
  some ((s1 + s0), w)
def zf_Mo_addressData (F : Nat) (w : zw_T) (a0 : Nat) (x1 : Int32) : Option (Int32 × zw_T) :=
  zf_at w 10 (some a0) fun a2 =>
  zf_ix w 120 (zw_R w 1577 a2 0) x1 fun a6 j6 =>
  zf_at w 10 (some a0) fun a12 =>
  zf_ix w 121 (zw_R w 1578 a12 0) x1 fun a16 j16 =>
  if (zw_I w 121 a16 j16) = 0 then (
  zf_Mo_addressData_j25 F w (0 : Int32) ((4 : Int32) * ((zw_I w 120 a6 j6) / (8 : Int32))))
  else (
  zf_Mo_addressData_j25 F w (3 : Int32) ((4 : Int32) * ((zw_I w 120 a6 j6) / (8 : Int32))))
set_option maxHeartbeats 4000000 in
set_option maxRecDepth 100000 in
theorem zm_Mo_addressData_j25 {X : zg_X} {D : va_G} {G : zw_G} {A : Nat → Prop} {F : Nat} {r : Int32 × zw_T} (hX : zg_ok X cMo_addressData RMo 2 0 0 128 0 D G A) (hr : zg_rt X = some .int) (hm : zg_nm X = yMo_addressData.name) (w : zw_T) (s0 : Int32) (s1 : Int32) (h : zf_Mo_addressData_j25 F w s0 s1 = some r) : zg X D G A (zg_Q X D G A 128 0 (zr_i r)) 128 0 w 25 [none, none] [.int s0, .int s1] := by
  unfold zf_Mo_addressData_j25 at h
  refine zg_iadd hX dMo_addressData_25 ?_
  cases h
  exact zg_iret hX hr (by decide) dMo_addressData_26
set_option maxHeartbeats 4000000 in
set_option maxRecDepth 100000 in
theorem zm_Mo_addressData (l : Launch) (D : va_G) (G : zw_G) (A : Nat → Prop) (F : Nat) (w : zw_T) (a0 : Nat) (x1 : Int32) (r : Int32 × zw_T) (h : zf_Mo_addressData F w a0 x1 = some r) : zc l yMo_addressData wsMo_addressData 0 0 128 0 D G A [.ref a0, .int x1] w (zr_i r) := by
  refine zc_of (ret := some .int) [some (va_rf (some a0)), some (.int x1)] (plainFor_of_name (by decide +kernel)) rfl (Nat.le_of_ble_eq_true rfl) rfl rfl (fun X hX hr hm => ?_)
  unfold zf_Mo_addressData at h
  refine zg_iconst hX dMo_addressData_0 (4 : Int32) (by decide) ?_
  refine zg_aload_n (x := (some a0)) hX dMo_addressData_1 rfl ?_
  refine zg_getR (ci := 9) (k := 1) hc_9 (by decide) (by decide) hin_9 zx_623 ft_9_1 hX dMo_addressData_2 h (fun a2 h => ?_)
  refine zg_iload_n hX dMo_addressData_5 rfl ?_
  refine zg_iald (kd := 120) (by decide) (by decide) hX dMo_addressData_6 h (fun a6 j6 h => ?_)
  refine zg_bipush hX dMo_addressData_7 (8 : Int32) (by decide) ?_
  refine zg_idiv hX dMo_addressData_9 (by decide) ?_
  refine zg_imul hX dMo_addressData_10 ?_
  refine zg_aload_n (x := (some a0)) hX dMo_addressData_11 rfl ?_
  refine zg_getR (ci := 9) (k := 2) hc_9 (by decide) (by decide) hin_9 zx_624 ft_9_2 hX dMo_addressData_12 h (fun a12 h => ?_)
  refine zg_iload_n hX dMo_addressData_15 rfl ?_
  refine zg_iald (kd := 121) (by decide) (by decide) hX dMo_addressData_16 h (fun a16 j16 h => ?_)
  refine zg_if_ne (tgt := 24) hX dMo_addressData_17 rfl h (fun h => ?_) (fun h => ?_)
  · refine zg_iconst hX dMo_addressData_20 (0 : Int32) (by decide) ?_
    refine zg_goto (tgt := 25) hX dMo_addressData_21 rfl ?_
    exact zg_sub (zl_d (zl_d zl_n)) (zm_Mo_addressData_j25 hX hr hm w (0 : Int32) ((4 : Int32) * ((zw_I w 120 a6 j6) / (8 : Int32))) h)
  · refine zg_iconst hX dMo_addressData_24 (3 : Int32) (by decide) ?_
    exact zg_sub (zl_d (zl_d zl_n)) (zm_Mo_addressData_j25 hX hr hm w (3 : Int32) ((4 : Int32) * ((zw_I w 120 a6 j6) / (8 : Int32))) h)
def zf_Mo_isAwake_j67 (F : Nat) (k20 : zw_T → Nat → Int32 → Int32 → Int32 → Option (Int32 × zw_T)) (w : zw_T) (a0 : Nat) (x1 : Int32) (x3 : Int32) (s0 : Int32) : Option (Int32 × zw_T) :=
  zf_let s0 fun y67 =>
  zf_let (x3 + (1 : Int32)) fun y68 =>
  k20 w a0 x1 y67 y68
def zf_Mo_isAwake_j62 (F : Nat) (k20 : zw_T → Nat → Int32 → Int32 → Int32 → Option (Int32 × zw_T)) (w : zw_T) (a0 : Nat) (x1 : Int32) (x3 : Int32) : Option (Int32 × zw_T) :=
  zf_Mo_isAwake_j67 F k20 w a0 x1 x3 (1 : Int32)
def zf_Mo_isAwake_L20 (F : Nat) : Nat → zw_T → Nat → Int32 → Int32 → Int32 → Option (Int32 × zw_T)
  | 0, _, _, _, _, _ => none
  | n + 1, w, a0, x1, x2, x3 =>
  zf_at w 10 (some a0) fun a23 =>
  zf_at w 10 (some a0) fun a28 =>
  zf_at w 10 (some a0) fun a32 =>
  zf_ix w 132 (zw_R w 1597 a28 0) (zw_I w 1607 a32 0) fun a35 j35 =>
  if (((4 : Int32) * (zw_I w 1607 a23 0)) + (zw_I w 132 a35 j35)) ≤ x3 then (
  zf_b x2 (some (x2, w)))
  else (
  if x2 = 0 then (
  zf_at w 10 (some a0) fun a45 =>
  zf_at w 10 (some a0) fun a49 =>
  zf_ix w 131 (zw_R w 1596 a49 0) x3 fun a53 j53 =>
  zf_ix w 120 (zw_R w 1577 a45 0) (zw_I w 131 a53 j53) fun a54 j54 =>
  if (zi_rem (zw_I w 120 a54 j54) (8 : Int32)) = x1 then (
  zf_Mo_isAwake_j62 F (zf_Mo_isAwake_L20 F n) w a0 x1 x3)
  else (
  zf_Mo_isAwake_j67 F (zf_Mo_isAwake_L20 F n) w a0 x1 x3 (0 : Int32)))
  else (
  zf_Mo_isAwake_j62 F (zf_Mo_isAwake_L20 F n) w a0 x1 x3))
def zf_Mo_isAwake_j12 (F : Nat) (w : zw_T) (a0 : Nat) (x1 : Int32) (s0 : Int32) : Option (Int32 × zw_T) :=
  zf_let s0 fun y12 =>
  zf_at w 10 (some a0) fun a15 =>
  zf_let ((4 : Int32) * (zw_I w 1607 a15 0)) fun y19 =>
  zf_Mo_isAwake_L20 F F w a0 x1 y12 y19
def zf_Mo_isAwake (F : Nat) (w : zw_T) (a0 : Nat) (x1 : Int32) : Option (Int32 × zw_T) :=
  zf_at w 10 (some a0) fun a1 =>
  if (zw_I w 1608 a1 0) < 0 then (
  zf_Mo_isAwake_j12 F w a0 x1 (0 : Int32))
  else (
  zf_Mo_isAwake_j12 F w a0 x1 (1 : Int32))
set_option maxHeartbeats 4000000 in
set_option maxRecDepth 100000 in
theorem zm_Mo_isAwake_j67 {X : zg_X} {D : va_G} {G : zw_G} {A : Nat → Prop} {F : Nat} {k20 : zw_T → Nat → Int32 → Int32 → Int32 → Option (Int32 × zw_T)} {r : Int32 × zw_T} (hX : zg_ok X cMo_isAwake RMo 4 0 0 128 0 D G A) (hr : zg_rt X = some .boolean) (hm : zg_nm X = yMo_isAwake.name) (hk20 : ∀ (w : zw_T) (a0 : Nat) (x1 : Int32) (x2 : Int32) (x3 : Int32), k20 w a0 x1 x2 x3 = some r → zg X D G A (zg_Q X D G A 128 0 (zr_i r)) 128 0 w 20 [some (va_rf (some a0)), some (.int x1), some (.int x2), some (.int x3)] []) (w : zw_T) (a0 : Nat) (x1 : Int32) (x3 : Int32) (s0 : Int32) (h : zf_Mo_isAwake_j67 F k20 w a0 x1 x3 s0 = some r) : zg X D G A (zg_Q X D G A 128 0 (zr_i r)) 128 0 w 67 [some (va_rf (some a0)), some (.int x1), none, some (.int x3)] [.int s0] := by
  unfold zf_Mo_isAwake_j67 at h
  refine zg_istore_n hX dMo_isAwake_67 (Nat.le_of_ble_eq_true rfl) rfl h (fun y67 h => ?_)
  refine zg_iinc hX dMo_isAwake_68 (1 : Int32) rfl (by decide) (Nat.le_of_ble_eq_true rfl) rfl h (fun y68 h => ?_)
  refine zg_goto (tgt := 20) hX dMo_isAwake_71 rfl ?_
  exact zg_sub (zl_k (zl_k (zl_k (zl_k zl_n)))) (hk20 w a0 x1 y67 y68 h)
set_option maxHeartbeats 4000000 in
set_option maxRecDepth 100000 in
theorem zm_Mo_isAwake_j62 {X : zg_X} {D : va_G} {G : zw_G} {A : Nat → Prop} {F : Nat} {k20 : zw_T → Nat → Int32 → Int32 → Int32 → Option (Int32 × zw_T)} {r : Int32 × zw_T} (hX : zg_ok X cMo_isAwake RMo 4 0 0 128 0 D G A) (hr : zg_rt X = some .boolean) (hm : zg_nm X = yMo_isAwake.name) (hk20 : ∀ (w : zw_T) (a0 : Nat) (x1 : Int32) (x2 : Int32) (x3 : Int32), k20 w a0 x1 x2 x3 = some r → zg X D G A (zg_Q X D G A 128 0 (zr_i r)) 128 0 w 20 [some (va_rf (some a0)), some (.int x1), some (.int x2), some (.int x3)] []) (w : zw_T) (a0 : Nat) (x1 : Int32) (x3 : Int32) (h : zf_Mo_isAwake_j62 F k20 w a0 x1 x3 = some r) : zg X D G A (zg_Q X D G A 128 0 (zr_i r)) 128 0 w 62 [some (va_rf (some a0)), some (.int x1), none, some (.int x3)] [] := by
  unfold zf_Mo_isAwake_j62 at h
  refine zg_iconst hX dMo_isAwake_62 (1 : Int32) (by decide) ?_
  refine zg_goto (tgt := 67) hX dMo_isAwake_63 rfl ?_
  exact zg_sub (zl_k (zl_k (zl_d (zl_k zl_n)))) (zm_Mo_isAwake_j67 hX hr hm hk20 w a0 x1 x3 (1 : Int32) h)
set_option maxHeartbeats 4000000 in
set_option maxRecDepth 100000 in
theorem zm_Mo_isAwake_L20 {X : zg_X} {D : va_G} {G : zw_G} {A : Nat → Prop} {F : Nat} {r : Int32 × zw_T} (hX : zg_ok X cMo_isAwake RMo 4 0 0 128 0 D G A) (hr : zg_rt X = some .boolean) (hm : zg_nm X = yMo_isAwake.name) : ∀ (n : Nat) (w : zw_T) (a0 : Nat) (x1 : Int32) (x2 : Int32) (x3 : Int32), zf_Mo_isAwake_L20 F n w a0 x1 x2 x3 = some r → zg X D G A (zg_Q X D G A 128 0 (zr_i r)) 128 0 w 20 [some (va_rf (some a0)), some (.int x1), some (.int x2), some (.int x3)] [] := by
  intro n
  induction n with
  | zero =>
    intro w a0 x1 x2 x3 h
    unfold zf_Mo_isAwake_L20 at h
    cases h
  | succ n ih =>
    intro w a0 x1 x2 x3 h
    rw [zf_Mo_isAwake_L20] at h
    refine zg_iload_n hX dMo_isAwake_20 rfl ?_
    refine zg_iconst hX dMo_isAwake_21 (4 : Int32) (by decide) ?_
    refine zg_aload_n (x := (some a0)) hX dMo_isAwake_22 rfl ?_
    refine zg_getI (ci := 9) (k := 31) hc_9 (by decide) (by decide) hin_9 zx_651 ft_9_31 hX dMo_isAwake_23 h (fun a23 h => ?_)
    refine zg_imul hX dMo_isAwake_26 ?_
    refine zg_aload_n (x := (some a0)) hX dMo_isAwake_27 rfl ?_
    refine zg_getR (ci := 9) (k := 21) hc_9 (by decide) (by decide) hin_9 zx_641 ft_9_21 hX dMo_isAwake_28 h (fun a28 h => ?_)
    refine zg_aload_n (x := (some a0)) hX dMo_isAwake_31 rfl ?_
    refine zg_getI (ci := 9) (k := 31) hc_9 (by decide) (by decide) hin_9 zx_651 ft_9_31 hX dMo_isAwake_32 h (fun a32 h => ?_)
    refine zg_iald (kd := 132) (by decide) (by decide) hX dMo_isAwake_35 h (fun a35 j35 h => ?_)
    refine zg_iadd hX dMo_isAwake_36 ?_
    refine zg_icmp_ge (tgt := 74) hX dMo_isAwake_37 rfl h (fun h => ?_) (fun h => ?_)
    · refine zg_iload_n hX dMo_isAwake_74 rfl ?_
      obtain ⟨hb75, h⟩ := zf_b_e h
      cases h
      exact zg_zret hX hr (zf_b_n hb75).1 (by decide) dMo_isAwake_75
    · refine zg_iload_n hX dMo_isAwake_40 rfl ?_
      refine zg_if_ne (tgt := 62) hX dMo_isAwake_41 rfl h (fun h => ?_) (fun h => ?_)
      · refine zg_aload_n (x := (some a0)) hX dMo_isAwake_44 rfl ?_
        refine zg_getR (ci := 9) (k := 1) hc_9 (by decide) (by decide) hin_9 zx_623 ft_9_1 hX dMo_isAwake_45 h (fun a45 h => ?_)
        refine zg_aload_n (x := (some a0)) hX dMo_isAwake_48 rfl ?_
        refine zg_getR (ci := 9) (k := 20) hc_9 (by decide) (by decide) hin_9 zx_640 ft_9_20 hX dMo_isAwake_49 h (fun a49 h => ?_)
        refine zg_iload_n hX dMo_isAwake_52 rfl ?_
        refine zg_iald (kd := 131) (by decide) (by decide) hX dMo_isAwake_53 h (fun a53 j53 h => ?_)
        refine zg_iald (kd := 120) (by decide) (by decide) hX dMo_isAwake_54 h (fun a54 j54 h => ?_)
        refine zg_bipush hX dMo_isAwake_55 (8 : Int32) (by decide) ?_
        refine zg_irem hX dMo_isAwake_57 (by decide) ?_
        refine zg_iload_n hX dMo_isAwake_58 rfl ?_
        refine zg_icmp_ne (tgt := 66) hX dMo_isAwake_59 rfl h (fun h => ?_) (fun h => ?_)
        · exact zg_sub (zl_k (zl_k (zl_d (zl_k zl_n)))) (zm_Mo_isAwake_j62 hX hr hm ih w a0 x1 x3 h)
        · refine zg_iconst hX dMo_isAwake_66 (0 : Int32) (by decide) ?_
          exact zg_sub (zl_k (zl_k (zl_d (zl_k zl_n)))) (zm_Mo_isAwake_j67 hX hr hm ih w a0 x1 x3 (0 : Int32) h)
      · exact zg_sub (zl_k (zl_k (zl_d (zl_k zl_n)))) (zm_Mo_isAwake_j62 hX hr hm ih w a0 x1 x3 h)
set_option maxHeartbeats 4000000 in
set_option maxRecDepth 100000 in
theorem zm_Mo_isAwake_j12 {X : zg_X} {D : va_G} {G : zw_G} {A : Nat → Prop} {F : Nat} {r : Int32 × zw_T} (hX : zg_ok X cMo_isAwake RMo 4 0 0 128 0 D G A) (hr : zg_rt X = some .boolean) (hm : zg_nm X = yMo_isAwake.name) (w : zw_T) (a0 : Nat) (x1 : Int32) (s0 : Int32) (h : zf_Mo_isAwake_j12 F w a0 x1 s0 = some r) : zg X D G A (zg_Q X D G A 128 0 (zr_i r)) 128 0 w 12 [some (va_rf (some a0)), some (.int x1), none, none] [.int s0] := by
  unfold zf_Mo_isAwake_j12 at h
  refine zg_istore_n hX dMo_isAwake_12 (Nat.le_of_ble_eq_true rfl) rfl h (fun y12 h => ?_)
  refine zg_iconst hX dMo_isAwake_13 (4 : Int32) (by decide) ?_
  refine zg_aload_n (x := (some a0)) hX dMo_isAwake_14 rfl ?_
  refine zg_getI (ci := 9) (k := 31) hc_9 (by decide) (by decide) hin_9 zx_651 ft_9_31 hX dMo_isAwake_15 h (fun a15 h => ?_)
  refine zg_imul hX dMo_isAwake_18 ?_
  refine zg_istore_n hX dMo_isAwake_19 (Nat.le_of_ble_eq_true rfl) rfl h (fun y19 h => ?_)
  exact zg_sub (zl_k (zl_k (zl_k (zl_k zl_n)))) (zm_Mo_isAwake_L20 hX hr hm F w a0 x1 y12 y19 h)
set_option maxHeartbeats 4000000 in
set_option maxRecDepth 100000 in
theorem zm_Mo_isAwake (l : Launch) (D : va_G) (G : zw_G) (A : Nat → Prop) (F : Nat) (w : zw_T) (a0 : Nat) (x1 : Int32) (r : Int32 × zw_T) (h : zf_Mo_isAwake F w a0 x1 = some r) : zc l yMo_isAwake wsMo_isAwake 0 0 128 0 D G A [.ref a0, .int x1] w (zr_i r) := by
  refine zc_of (ret := some .boolean) [some (va_rf (some a0)), some (.int x1), none, none] (plainFor_of_name (by decide +kernel)) rfl (Nat.le_of_ble_eq_true rfl) rfl rfl (fun X hX hr hm => ?_)
  unfold zf_Mo_isAwake at h
  refine zg_aload_n (x := (some a0)) hX dMo_isAwake_0 rfl ?_
  refine zg_getI (ci := 9) (k := 32) hc_9 (by decide) (by decide) hin_9 zx_652 ft_9_32 hX dMo_isAwake_1 h (fun a1 h => ?_)
  refine zg_if_lt (tgt := 11) hX dMo_isAwake_4 rfl h (fun h => ?_) (fun h => ?_)
  · refine zg_iconst hX dMo_isAwake_11 (0 : Int32) (by decide) ?_
    exact zg_sub (zl_k (zl_k (zl_d (zl_d zl_n)))) (zm_Mo_isAwake_j12 hX hr hm w a0 x1 (0 : Int32) h)
  · refine zg_iconst hX dMo_isAwake_7 (1 : Int32) (by decide) ?_
    refine zg_goto (tgt := 12) hX dMo_isAwake_8 rfl ?_
    exact zg_sub (zl_k (zl_k (zl_d (zl_d zl_n)))) (zm_Mo_isAwake_j12 hX hr hm w a0 x1 (1 : Int32) h)
def zf_Mo_wordAt_L4 (F : Nat) : Nat → zw_T → Nat → Int32 → Int32 → Int32 → Option (Int32 × zw_T)
  | 0, _, _, _, _, _ => none
  | n + 1, w, a0, x1, x2, x3 =>
  if (x1 + (32 : Int32)) ≤ x3 then (
  some (x2, w))
  else (
  zf_at w 10 (some a0) fun a16 =>
  zf_ix w 130 (zw_R w 1591 a16 0) x3 fun a20 j20 =>
  zf_let (((2 : Int32) * x2) + (zw_I w 130 a20 j20)) fun y22 =>
  zf_let (x3 + (1 : Int32)) fun y23 =>
  zf_Mo_wordAt_L4 F n w a0 x1 y22 y23)
def zf_Mo_wordAt (F : Nat) (w : zw_T) (a0 : Nat) (x1 : Int32) : Option (Int32 × zw_T) :=
  zf_let (0 : Int32) fun y1 =>
  zf_let x1 fun y3 =>
  zf_Mo_wordAt_L4 F F w a0 x1 y1 y3
set_option maxHeartbeats 4000000 in
set_option maxRecDepth 100000 in
theorem zm_Mo_wordAt_L4 {X : zg_X} {D : va_G} {G : zw_G} {A : Nat → Prop} {F : Nat} {r : Int32 × zw_T} (hX : zg_ok X cMo_wordAt RMo 4 0 0 128 0 D G A) (hr : zg_rt X = some .int) (hm : zg_nm X = yMo_wordAt.name) : ∀ (n : Nat) (w : zw_T) (a0 : Nat) (x1 : Int32) (x2 : Int32) (x3 : Int32), zf_Mo_wordAt_L4 F n w a0 x1 x2 x3 = some r → zg X D G A (zg_Q X D G A 128 0 (zr_i r)) 128 0 w 4 [some (va_rf (some a0)), some (.int x1), some (.int x2), some (.int x3)] [] := by
  intro n
  induction n with
  | zero =>
    intro w a0 x1 x2 x3 h
    unfold zf_Mo_wordAt_L4 at h
    cases h
  | succ n ih =>
    intro w a0 x1 x2 x3 h
    rw [zf_Mo_wordAt_L4] at h
    refine zg_iload_n hX dMo_wordAt_4 rfl ?_
    refine zg_iload_n hX dMo_wordAt_5 rfl ?_
    refine zg_bipush hX dMo_wordAt_6 (32 : Int32) (by decide) ?_
    refine zg_iadd hX dMo_wordAt_8 ?_
    refine zg_icmp_ge (tgt := 29) hX dMo_wordAt_9 rfl h (fun h => ?_) (fun h => ?_)
    · refine zg_iload_n hX dMo_wordAt_29 rfl ?_
      cases h
      exact zg_iret hX hr (by decide) dMo_wordAt_30
    · refine zg_iconst hX dMo_wordAt_12 (2 : Int32) (by decide) ?_
      refine zg_iload_n hX dMo_wordAt_13 rfl ?_
      refine zg_imul hX dMo_wordAt_14 ?_
      refine zg_aload_n (x := (some a0)) hX dMo_wordAt_15 rfl ?_
      refine zg_getR (ci := 9) (k := 15) hc_9 (by decide) (by decide) hin_9 zx_637 ft_9_15 hX dMo_wordAt_16 h (fun a16 h => ?_)
      refine zg_iload_n hX dMo_wordAt_19 rfl ?_
      refine zg_iald (kd := 130) (by decide) (by decide) hX dMo_wordAt_20 h (fun a20 j20 h => ?_)
      refine zg_iadd hX dMo_wordAt_21 ?_
      refine zg_istore_n hX dMo_wordAt_22 (Nat.le_of_ble_eq_true rfl) rfl h (fun y22 h => ?_)
      refine zg_iinc hX dMo_wordAt_23 (1 : Int32) rfl (by decide) (Nat.le_of_ble_eq_true rfl) rfl h (fun y23 h => ?_)
      refine zg_goto (tgt := 4) hX dMo_wordAt_26 rfl ?_
      exact zg_sub (zl_k (zl_k (zl_k (zl_k zl_n)))) (ih w a0 x1 y22 y23 h)
set_option maxHeartbeats 4000000 in
set_option maxRecDepth 100000 in
theorem zm_Mo_wordAt (l : Launch) (D : va_G) (G : zw_G) (A : Nat → Prop) (F : Nat) (w : zw_T) (a0 : Nat) (x1 : Int32) (r : Int32 × zw_T) (h : zf_Mo_wordAt F w a0 x1 = some r) : zc l yMo_wordAt wsMo_wordAt 0 0 128 0 D G A [.ref a0, .int x1] w (zr_i r) := by
  refine zc_of (ret := some .int) [some (va_rf (some a0)), some (.int x1), none, none] (plainFor_of_name (by decide +kernel)) rfl (Nat.le_of_ble_eq_true rfl) rfl rfl (fun X hX hr hm => ?_)
  unfold zf_Mo_wordAt at h
  refine zg_iconst hX dMo_wordAt_0 (0 : Int32) (by decide) ?_
  refine zg_istore_n hX dMo_wordAt_1 (Nat.le_of_ble_eq_true rfl) rfl h (fun y1 h => ?_)
  refine zg_iload_n hX dMo_wordAt_2 rfl ?_
  refine zg_istore_n hX dMo_wordAt_3 (Nat.le_of_ble_eq_true rfl) rfl h (fun y3 h => ?_)
  exact zg_sub (zl_k (zl_k (zl_k (zl_k zl_n)))) (zm_Mo_wordAt_L4 hX hr hm F w a0 x1 y1 y3 h)
def zf_Mo_codeword_L58 (F : Nat) : Nat → zw_T → Int32 → Int32 → Int32 → Option (Int32 × zw_T)
  | 0, _, _, _, _ => none
  | n + 1, w, x2, x3, x4 =>
  if (32 : Int32) ≤ x4 then (
  some ((x2 ||| x3), w))
  else (
  zf_let (x3 ^^^ ((zi_shr x2 x4) &&& (1 : Int32))) fun y73 =>
  zf_let (x4 + (1 : Int32)) fun y74 =>
  zf_Mo_codeword_L58 F n w x2 y73 y74)
def zf_Mo_codeword_j37 (F : Nat) (k8 : zw_T → Int32 → Int32 → Int32 → Option (Int32 × zw_T)) (w : zw_T) (x0 : Int32) (x2 : Int32) (s0 : Int32) : Option (Int32 × zw_T) :=
  zf_let s0 fun y37 =>
  zf_let (x2 + (-1 : Int32)) fun y38 =>
  k8 w x0 y37 y38
def zf_Mo_codeword_L8 (F : Nat) : Nat → zw_T → Int32 → Int32 → Int32 → Option (Int32 × zw_T)
  | 0, _, _, _, _ => none
  | n + 1, w, x0, x1, x2 =>
  if x2 < (10 : Int32) then (
  zf_let ((zi_shl x0 (11 : Int32)) ||| (zi_shl x1 (1 : Int32))) fun y52 =>
  zf_let (0 : Int32) fun y54 =>
  zf_let (1 : Int32) fun y56 =>
  zf_Mo_codeword_L58 F F w y52 y54 y56)
  else (
  if ((zi_shr x1 x2) &&& (1 : Int32)) = (1 : Int32) then (
  zf_Mo_codeword_j37 F (zf_Mo_codeword_L8 F n) w x0 x2 (x1 ^^^ (zi_shl (1897 : Int32) (x2 - (10 : Int32)))))
  else (
  zf_Mo_codeword_j37 F (zf_Mo_codeword_L8 F n) w x0 x2 x1))
def zf_Mo_codeword (F : Nat) (w : zw_T) (x0 : Int32) : Option (Int32 × zw_T) :=
  zf_let (zi_shl x0 (10 : Int32)) fun y4 =>
  zf_let (30 : Int32) fun y7 =>
  zf_Mo_codeword_L8 F F w x0 y4 y7
set_option maxHeartbeats 4000000 in
set_option maxRecDepth 100000 in
theorem zm_Mo_codeword_L58 {X : zg_X} {D : va_G} {G : zw_G} {A : Nat → Prop} {F : Nat} {r : Int32 × zw_T} (hX : zg_ok X cMo_codeword RMo 5 0 0 128 0 D G A) (hr : zg_rt X = some .int) (hm : zg_nm X = yMo_codeword.name) : ∀ (n : Nat) (w : zw_T) (x2 : Int32) (x3 : Int32) (x4 : Int32), zf_Mo_codeword_L58 F n w x2 x3 x4 = some r → zg X D G A (zg_Q X D G A 128 0 (zr_i r)) 128 0 w 58 [none, none, some (.int x2), some (.int x3), some (.int x4)] [] := by
  intro n
  induction n with
  | zero =>
    intro w x2 x3 x4 h
    unfold zf_Mo_codeword_L58 at h
    cases h
  | succ n ih =>
    intro w x2 x3 x4 h
    rw [zf_Mo_codeword_L58] at h
    refine zg_iload hX dMo_codeword_58 rfl ?_
    refine zg_bipush hX dMo_codeword_60 (32 : Int32) (by decide) ?_
    refine zg_icmp_ge (tgt := 80) hX dMo_codeword_62 rfl h (fun h => ?_) (fun h => ?_)
    · refine zg_iload_n hX dMo_codeword_80 rfl ?_
      refine zg_iload_n hX dMo_codeword_81 rfl ?_
      refine zg_ior hX dMo_codeword_82 ?_
      cases h
      exact zg_iret hX hr (by decide) dMo_codeword_83
    · refine zg_iload_n hX dMo_codeword_65 rfl ?_
      refine zg_iload_n hX dMo_codeword_66 rfl ?_
      refine zg_iload hX dMo_codeword_67 rfl ?_
      refine zg_ishr hX dMo_codeword_69 ?_
      refine zg_iconst hX dMo_codeword_70 (1 : Int32) (by decide) ?_
      refine zg_iand hX dMo_codeword_71 ?_
      refine zg_ixor hX dMo_codeword_72 ?_
      refine zg_istore_n hX dMo_codeword_73 (Nat.le_of_ble_eq_true rfl) rfl h (fun y73 h => ?_)
      refine zg_iinc hX dMo_codeword_74 (1 : Int32) rfl (by decide) (Nat.le_of_ble_eq_true rfl) rfl h (fun y74 h => ?_)
      refine zg_goto (tgt := 58) hX dMo_codeword_77 rfl ?_
      exact zg_sub (zl_d (zl_d (zl_k (zl_k (zl_k zl_n))))) (ih w x2 y73 y74 h)
set_option maxHeartbeats 4000000 in
set_option maxRecDepth 100000 in
theorem zm_Mo_codeword_j37 {X : zg_X} {D : va_G} {G : zw_G} {A : Nat → Prop} {F : Nat} {k8 : zw_T → Int32 → Int32 → Int32 → Option (Int32 × zw_T)} {r : Int32 × zw_T} (hX : zg_ok X cMo_codeword RMo 5 0 0 128 0 D G A) (hr : zg_rt X = some .int) (hm : zg_nm X = yMo_codeword.name) (hk8 : ∀ (w : zw_T) (x0 : Int32) (x1 : Int32) (x2 : Int32), k8 w x0 x1 x2 = some r → zg X D G A (zg_Q X D G A 128 0 (zr_i r)) 128 0 w 8 [some (.int x0), some (.int x1), some (.int x2), none, none] []) (w : zw_T) (x0 : Int32) (x2 : Int32) (s0 : Int32) (h : zf_Mo_codeword_j37 F k8 w x0 x2 s0 = some r) : zg X D G A (zg_Q X D G A 128 0 (zr_i r)) 128 0 w 37 [some (.int x0), none, some (.int x2), none, none] [.int s0] := by
  unfold zf_Mo_codeword_j37 at h
  refine zg_istore_n hX dMo_codeword_37 (Nat.le_of_ble_eq_true rfl) rfl h (fun y37 h => ?_)
  refine zg_iinc hX dMo_codeword_38 (-1 : Int32) rfl (by decide) (Nat.le_of_ble_eq_true rfl) rfl h (fun y38 h => ?_)
  refine zg_goto (tgt := 8) hX dMo_codeword_41 rfl ?_
  exact zg_sub (zl_k (zl_k (zl_k (zl_d (zl_d zl_n))))) (hk8 w x0 y37 y38 h)
set_option maxHeartbeats 4000000 in
set_option maxRecDepth 100000 in
theorem zm_Mo_codeword_L8 {X : zg_X} {D : va_G} {G : zw_G} {A : Nat → Prop} {F : Nat} {r : Int32 × zw_T} (hX : zg_ok X cMo_codeword RMo 5 0 0 128 0 D G A) (hr : zg_rt X = some .int) (hm : zg_nm X = yMo_codeword.name) : ∀ (n : Nat) (w : zw_T) (x0 : Int32) (x1 : Int32) (x2 : Int32), zf_Mo_codeword_L8 F n w x0 x1 x2 = some r → zg X D G A (zg_Q X D G A 128 0 (zr_i r)) 128 0 w 8 [some (.int x0), some (.int x1), some (.int x2), none, none] [] := by
  intro n
  induction n with
  | zero =>
    intro w x0 x1 x2 h
    unfold zf_Mo_codeword_L8 at h
    cases h
  | succ n ih =>
    intro w x0 x1 x2 h
    rw [zf_Mo_codeword_L8] at h
    refine zg_iload_n hX dMo_codeword_8 rfl ?_
    refine zg_bipush hX dMo_codeword_9 (10 : Int32) (by decide) ?_
    refine zg_icmp_lt (tgt := 44) hX dMo_codeword_11 rfl h (fun h => ?_) (fun h => ?_)
    · refine zg_iload_n hX dMo_codeword_44 rfl ?_
      refine zg_bipush hX dMo_codeword_45 (11 : Int32) (by decide) ?_
      refine zg_ishl hX dMo_codeword_47 ?_
      refine zg_iload_n hX dMo_codeword_48 rfl ?_
      refine zg_iconst hX dMo_codeword_49 (1 : Int32) (by decide) ?_
      refine zg_ishl hX dMo_codeword_50 ?_
      refine zg_ior hX dMo_codeword_51 ?_
      refine zg_istore_n hX dMo_codeword_52 (Nat.le_of_ble_eq_true rfl) rfl h (fun y52 h => ?_)
      refine zg_iconst hX dMo_codeword_53 (0 : Int32) (by decide) ?_
      refine zg_istore_n hX dMo_codeword_54 (Nat.le_of_ble_eq_true rfl) rfl h (fun y54 h => ?_)
      refine zg_iconst hX dMo_codeword_55 (1 : Int32) (by decide) ?_
      refine zg_istore hX dMo_codeword_56 (Nat.le_of_ble_eq_true rfl) rfl h (fun y56 h => ?_)
      exact zg_sub (zl_d (zl_d (zl_k (zl_k (zl_k zl_n))))) (zm_Mo_codeword_L58 hX hr hm F w y52 y54 y56 h)
    · refine zg_iload_n hX dMo_codeword_14 rfl ?_
      refine zg_iload_n hX dMo_codeword_15 rfl ?_
      refine zg_ishr hX dMo_codeword_16 ?_
      refine zg_iconst hX dMo_codeword_17 (1 : Int32) (by decide) ?_
      refine zg_iand hX dMo_codeword_18 ?_
      refine zg_iconst hX dMo_codeword_19 (1 : Int32) (by decide) ?_
      refine zg_icmp_ne (tgt := 36) hX dMo_codeword_20 rfl h (fun h => ?_) (fun h => ?_)
      · refine zg_iload_n hX dMo_codeword_23 rfl ?_
        refine zg_sipush hX dMo_codeword_24 (1897 : Int32) (by decide) ?_
        refine zg_iload_n hX dMo_codeword_27 rfl ?_
        refine zg_bipush hX dMo_codeword_28 (10 : Int32) (by decide) ?_
        refine zg_isub hX dMo_codeword_30 ?_
        refine zg_ishl hX dMo_codeword_31 ?_
        refine zg_ixor hX dMo_codeword_32 ?_
        refine zg_goto (tgt := 37) hX dMo_codeword_33 rfl ?_
        exact zg_sub (zl_k (zl_d (zl_k (zl_d (zl_d zl_n))))) (zm_Mo_codeword_j37 hX hr hm ih w x0 x2 (x1 ^^^ (zi_shl (1897 : Int32) (x2 - (10 : Int32)))) h)
      · refine zg_iload_n hX dMo_codeword_36 rfl ?_
        exact zg_sub (zl_k (zl_d (zl_k (zl_d (zl_d zl_n))))) (zm_Mo_codeword_j37 hX hr hm ih w x0 x2 x1 h)
set_option maxHeartbeats 4000000 in
set_option maxRecDepth 100000 in
theorem zm_Mo_codeword (l : Launch) (D : va_G) (G : zw_G) (A : Nat → Prop) (F : Nat) (w : zw_T) (x0 : Int32) (r : Int32 × zw_T) (h : zf_Mo_codeword F w x0 = some r) : zc l yMo_codeword wsMo_codeword 0 0 128 0 D G A [.int x0] w (zr_i r) := by
  refine zc_of (ret := some .int) [some (.int x0), none, none, none, none] (plainFor_of_name (by decide +kernel)) rfl (Nat.le_of_ble_eq_true rfl) rfl rfl (fun X hX hr hm => ?_)
  unfold zf_Mo_codeword at h
  refine zg_iload_n hX dMo_codeword_0 rfl ?_
  refine zg_bipush hX dMo_codeword_1 (10 : Int32) (by decide) ?_
  refine zg_ishl hX dMo_codeword_3 ?_
  refine zg_istore_n hX dMo_codeword_4 (Nat.le_of_ble_eq_true rfl) rfl h (fun y4 h => ?_)
  refine zg_bipush hX dMo_codeword_5 (30 : Int32) (by decide) ?_
  refine zg_istore_n hX dMo_codeword_7 (Nat.le_of_ble_eq_true rfl) rfl h (fun y7 h => ?_)
  exact zg_sub (zl_k (zl_k (zl_k (zl_d (zl_d zl_n))))) (zm_Mo_codeword_L8 hX hr hm F w x0 y4 y7 h)
def zf_Mo_isCodeword (F : Nat) (w : zw_T) (x0 : Int32) : Option (Int32 × zw_T) :=
  zf_bd (zf_Mo_codeword F w (zi_ushr x0 (11 : Int32))) fun v4 w4 =>
  if v4 = x0 then (
  zf_b (1 : Int32) (some ((1 : Int32), w4)))
  else (
  zf_b (0 : Int32) (some ((0 : Int32), w4)))
set_option maxHeartbeats 4000000 in
set_option maxRecDepth 100000 in
theorem zm_Mo_isCodeword (l : Launch) (D : va_G) (G : zw_G) (A : Nat → Prop) (F : Nat) (w : zw_T) (x0 : Int32) (r : Int32 × zw_T) (h : zf_Mo_isCodeword F w x0 = some r) : zc l yMo_isCodeword wsMo_isCodeword 1 24 128 0 D G A [.int x0] w (zr_i r) := by
  refine zc_of (ret := some .boolean) [some (.int x0)] (plainFor_of_name (by decide +kernel)) rfl (Nat.le_of_ble_eq_true rfl) rfl rfl (fun X hX hr hm => ?_)
  unfold zf_Mo_isCodeword at h
  refine zg_iload_n hX dMo_isCodeword_0 rfl ?_
  refine zg_bipush hX dMo_isCodeword_1 (11 : Int32) (by decide) ?_
  refine zg_iushr hX dMo_isCodeword_3 ?_
  obtain ⟨v4, w4, q4, h⟩ := zf_bd_e h
  refine zg_callS_i (mcy := 0) (v := v4) (w1 := w4) (st := []) [.int (zi_ushr x0 (11 : Int32))] (fun l => zm_Mo_codeword l D G A F w (zi_ushr x0 (11 : Int32)) (v4, w4) q4) (zt_S zx_739 zx_740 zx_5 zx_741) rfl hd_Mo_codeword (by decide) (by decide) (by decide) (Nat.le_of_ble_eq_true rfl) rfl rfl hX dMo_isCodeword_4 ?_
  refine zg_iload_n hX dMo_isCodeword_7 rfl ?_
  refine zg_icmp_ne (tgt := 15) hX dMo_isCodeword_8 rfl h (fun h => ?_) (fun h => ?_)
  · refine zg_iconst hX dMo_isCodeword_11 (1 : Int32) (by decide) ?_
    refine zg_goto (tgt := 16) hX dMo_isCodeword_12 rfl ?_
    obtain ⟨hb16, h⟩ := zf_b_e h
    cases h
    exact zg_zret hX hr (zf_b_n hb16).1 (by decide) dMo_isCodeword_16
  · refine zg_iconst hX dMo_isCodeword_15 (0 : Int32) (by decide) ?_
    obtain ⟨hb16, h⟩ := zf_b_e h
    cases h
    exact zg_zret hX hr (zf_b_n hb16).1 (by decide) dMo_isCodeword_16
def zf_Mo_repair_L42 (F : Nat) (k14 : zw_T → Int32 → Int32 → Option (Int32 × zw_T)) : Nat → zw_T → Int32 → Int32 → Int32 → Option (Int32 × zw_T)
  | 0, _, _, _, _ => none
  | n + 1, w, x1, x2, x3 =>
  if x2 ≤ x3 then (
  zf_let (x2 + (1 : Int32)) fun y78 =>
  k14 w x1 y78)
  else (
  zf_let ((x1 ^^^ (zi_shl (1 : Int32) x2)) ^^^ (zi_shl (1 : Int32) x3)) fun y56 =>
  zf_bd (zf_Mo_isCodeword F w y56) fun v60 w60 =>
  if v60 = 0 then (
  zf_let (x3 + (1 : Int32)) fun y72 =>
  zf_Mo_repair_L42 F k14 n w60 x1 x2 y72)
  else (
  some ((zi_ushr y56 (11 : Int32)), w60)))
def zf_Mo_repair_L14 (F : Nat) : Nat → zw_T → Int32 → Int32 → Option (Int32 × zw_T)
  | 0, _, _, _ => none
  | n + 1, w, x1, x2 =>
  if (32 : Int32) ≤ x2 then (
  some ((-1 : Int32), w))
  else (
  zf_bd (zf_Mo_isCodeword F w (x1 ^^^ (zi_shl (1 : Int32) x2))) fun v25 w25 =>
  if v25 = 0 then (
  zf_let (0 : Int32) fun y41 =>
  zf_Mo_repair_L42 F (zf_Mo_repair_L14 F n) F w25 x1 x2 y41)
  else (
  some ((zi_ushr (x1 ^^^ (zi_shl (1 : Int32) x2)) (11 : Int32)), w25)))
def zf_Mo_repair (F : Nat) (w : zw_T) (a0 : Nat) (x1 : Int32) : Option (Int32 × zw_T) :=
  zf_bd (zf_Mo_isCodeword F w x1) fun v1 w1 =>
  if v1 = 0 then (
  zf_let (0 : Int32) fun y13 =>
  zf_Mo_repair_L14 F F w1 x1 y13)
  else (
  some ((zi_ushr x1 (11 : Int32)), w1))
set_option maxHeartbeats 4000000 in
set_option maxRecDepth 100000 in
theorem zm_Mo_repair_L42 {X : zg_X} {D : va_G} {G : zw_G} {A : Nat → Prop} {F : Nat} {k14 : zw_T → Int32 → Int32 → Option (Int32 × zw_T)} {r : Int32 × zw_T} (hX : zg_ok X cMo_repair RMo 5 2 44 128 0 D G A) (hr : zg_rt X = some .int) (hm : zg_nm X = yMo_repair.name) (hk14 : ∀ (w : zw_T) (x1 : Int32) (x2 : Int32), k14 w x1 x2 = some r → zg X D G A (zg_Q X D G A 128 0 (zr_i r)) 128 0 w 14 [none, some (.int x1), some (.int x2), none, none] []) : ∀ (n : Nat) (w : zw_T) (x1 : Int32) (x2 : Int32) (x3 : Int32), zf_Mo_repair_L42 F k14 n w x1 x2 x3 = some r → zg X D G A (zg_Q X D G A 128 0 (zr_i r)) 128 0 w 42 [none, some (.int x1), some (.int x2), some (.int x3), none] [] := by
  intro n
  induction n with
  | zero =>
    intro w x1 x2 x3 h
    unfold zf_Mo_repair_L42 at h
    cases h
  | succ n ih =>
    intro w x1 x2 x3 h
    rw [zf_Mo_repair_L42] at h
    refine zg_iload_n hX dMo_repair_42 rfl ?_
    refine zg_iload_n hX dMo_repair_43 rfl ?_
    refine zg_icmp_ge (tgt := 78) hX dMo_repair_44 rfl h (fun h => ?_) (fun h => ?_)
    · refine zg_iinc hX dMo_repair_78 (1 : Int32) rfl (by decide) (Nat.le_of_ble_eq_true rfl) rfl h (fun y78 h => ?_)
      refine zg_goto (tgt := 14) hX dMo_repair_81 rfl ?_
      exact zg_sub (zl_d (zl_k (zl_k (zl_d (zl_d zl_n))))) (hk14 w x1 y78 h)
    · refine zg_iload_n hX dMo_repair_47 rfl ?_
      refine zg_iconst hX dMo_repair_48 (1 : Int32) (by decide) ?_
      refine zg_iload_n hX dMo_repair_49 rfl ?_
      refine zg_ishl hX dMo_repair_50 ?_
      refine zg_ixor hX dMo_repair_51 ?_
      refine zg_iconst hX dMo_repair_52 (1 : Int32) (by decide) ?_
      refine zg_iload_n hX dMo_repair_53 rfl ?_
      refine zg_ishl hX dMo_repair_54 ?_
      refine zg_ixor hX dMo_repair_55 ?_
      refine zg_istore hX dMo_repair_56 (Nat.le_of_ble_eq_true rfl) rfl h (fun y56 h => ?_)
      refine zg_iload hX dMo_repair_58 rfl ?_
      obtain ⟨v60, w60, q60, h⟩ := zf_bd_e h
      refine zg_callS_i (mcy := 0) (v := v60) (w1 := w60) (st := []) [.int y56] (fun l => zm_Mo_isCodeword l D G A F w y56 (v60, w60) q60) (zt_S zx_746 zx_747 zx_5 zx_748) rfl hd_Mo_isCodeword (by decide) (by decide) (by decide) (Nat.le_of_ble_eq_true rfl) rfl rfl hX dMo_repair_60 ?_
      refine zg_if_eq (tgt := 72) hX dMo_repair_63 rfl h (fun h => ?_) (fun h => ?_)
      · refine zg_iinc hX dMo_repair_72 (1 : Int32) rfl (by decide) (Nat.le_of_ble_eq_true rfl) rfl h (fun y72 h => ?_)
        refine zg_goto (tgt := 42) hX dMo_repair_75 rfl ?_
        exact zg_sub (zl_d (zl_k (zl_k (zl_k (zl_d zl_n))))) (ih w60 x1 x2 y72 h)
      · refine zg_iload hX dMo_repair_66 rfl ?_
        refine zg_bipush hX dMo_repair_68 (11 : Int32) (by decide) ?_
        refine zg_iushr hX dMo_repair_70 ?_
        cases h
        exact zg_iret hX hr (by decide) dMo_repair_71
set_option maxHeartbeats 4000000 in
set_option maxRecDepth 100000 in
theorem zm_Mo_repair_L14 {X : zg_X} {D : va_G} {G : zw_G} {A : Nat → Prop} {F : Nat} {r : Int32 × zw_T} (hX : zg_ok X cMo_repair RMo 5 2 44 128 0 D G A) (hr : zg_rt X = some .int) (hm : zg_nm X = yMo_repair.name) : ∀ (n : Nat) (w : zw_T) (x1 : Int32) (x2 : Int32), zf_Mo_repair_L14 F n w x1 x2 = some r → zg X D G A (zg_Q X D G A 128 0 (zr_i r)) 128 0 w 14 [none, some (.int x1), some (.int x2), none, none] [] := by
  intro n
  induction n with
  | zero =>
    intro w x1 x2 h
    unfold zf_Mo_repair_L14 at h
    cases h
  | succ n ih =>
    intro w x1 x2 h
    rw [zf_Mo_repair_L14] at h
    refine zg_iload_n hX dMo_repair_14 rfl ?_
    refine zg_bipush hX dMo_repair_15 (32 : Int32) (by decide) ?_
    refine zg_icmp_ge (tgt := 84) hX dMo_repair_17 rfl h (fun h => ?_) (fun h => ?_)
    · refine zg_iconst hX dMo_repair_84 (-1 : Int32) (by decide) ?_
      cases h
      exact zg_iret hX hr (by decide) dMo_repair_85
    · refine zg_iload_n hX dMo_repair_20 rfl ?_
      refine zg_iconst hX dMo_repair_21 (1 : Int32) (by decide) ?_
      refine zg_iload_n hX dMo_repair_22 rfl ?_
      refine zg_ishl hX dMo_repair_23 ?_
      refine zg_ixor hX dMo_repair_24 ?_
      obtain ⟨v25, w25, q25, h⟩ := zf_bd_e h
      refine zg_callS_i (mcy := 0) (v := v25) (w1 := w25) (st := []) [.int (x1 ^^^ (zi_shl (1 : Int32) x2))] (fun l => zm_Mo_isCodeword l D G A F w (x1 ^^^ (zi_shl (1 : Int32) x2)) (v25, w25) q25) (zt_S zx_746 zx_747 zx_5 zx_748) rfl hd_Mo_isCodeword (by decide) (by decide) (by decide) (Nat.le_of_ble_eq_true rfl) rfl rfl hX dMo_repair_25 ?_
      refine zg_if_eq (tgt := 40) hX dMo_repair_28 rfl h (fun h => ?_) (fun h => ?_)
      · refine zg_iconst hX dMo_repair_40 (0 : Int32) (by decide) ?_
        refine zg_istore_n hX dMo_repair_41 (Nat.le_of_ble_eq_true rfl) rfl h (fun y41 h => ?_)
        exact zg_sub (zl_d (zl_k (zl_k (zl_k (zl_d zl_n))))) (zm_Mo_repair_L42 hX hr hm ih F w25 x1 x2 y41 h)
      · refine zg_iload_n hX dMo_repair_31 rfl ?_
        refine zg_iconst hX dMo_repair_32 (1 : Int32) (by decide) ?_
        refine zg_iload_n hX dMo_repair_33 rfl ?_
        refine zg_ishl hX dMo_repair_34 ?_
        refine zg_ixor hX dMo_repair_35 ?_
        refine zg_bipush hX dMo_repair_36 (11 : Int32) (by decide) ?_
        refine zg_iushr hX dMo_repair_38 ?_
        cases h
        exact zg_iret hX hr (by decide) dMo_repair_39
set_option maxHeartbeats 4000000 in
set_option maxRecDepth 100000 in
theorem zm_Mo_repair (l : Launch) (D : va_G) (G : zw_G) (A : Nat → Prop) (F : Nat) (w : zw_T) (a0 : Nat) (x1 : Int32) (r : Int32 × zw_T) (h : zf_Mo_repair F w a0 x1 = some r) : zc l yMo_repair wsMo_repair 2 44 128 0 D G A [.ref a0, .int x1] w (zr_i r) := by
  refine zc_of (ret := some .int) [some (va_rf (some a0)), some (.int x1), none, none, none] (plainFor_of_name (by decide +kernel)) rfl (Nat.le_of_ble_eq_true rfl) rfl rfl (fun X hX hr hm => ?_)
  unfold zf_Mo_repair at h
  refine zg_iload_n hX dMo_repair_0 rfl ?_
  obtain ⟨v1, w1, q1, h⟩ := zf_bd_e h
  refine zg_callS_i (mcy := 0) (v := v1) (w1 := w1) (st := []) [.int x1] (fun l => zm_Mo_isCodeword l D G A F w x1 (v1, w1) q1) (zt_S zx_746 zx_747 zx_5 zx_748) rfl hd_Mo_isCodeword (by decide) (by decide) (by decide) (Nat.le_of_ble_eq_true rfl) rfl rfl hX dMo_repair_1 ?_
  refine zg_if_eq (tgt := 12) hX dMo_repair_4 rfl h (fun h => ?_) (fun h => ?_)
  · refine zg_iconst hX dMo_repair_12 (0 : Int32) (by decide) ?_
    refine zg_istore_n hX dMo_repair_13 (Nat.le_of_ble_eq_true rfl) rfl h (fun y13 h => ?_)
    exact zg_sub (zl_d (zl_k (zl_k (zl_d (zl_d zl_n))))) (zm_Mo_repair_L14 hX hr hm F w1 x1 y13 h)
  · refine zg_iload_n hX dMo_repair_7 rfl ?_
    refine zg_bipush hX dMo_repair_8 (11 : Int32) (by decide) ?_
    refine zg_iushr hX dMo_repair_10 ?_
    cases h
    exact zg_iret hX hr (by decide) dMo_repair_11
def zf_Mo_gotSign_L26 (F : Nat) : Nat → zw_T → Nat → Int32 → Int32 → Int32 → Int32 → Option (Int32 × zw_T)
  | 0, _, _, _, _, _, _ => none
  | n + 1, w, a0, x1, x2, x3, x4 =>
  if x4 < 0 then (
  some (x3, w))
  else (
  zf_at w 10 (some a0) fun a35 =>
  zf_ix w 140 (zw_R w 1609 a35 0) ((x2 * x1) + x4) fun a44 j44 =>
  zf_let (((2 : Int32) * x3) + (zw_I w 140 a44 j44)) fun y46 =>
  zf_let (x4 + (-1 : Int32)) fun y47 =>
  zf_Mo_gotSign_L26 F n w a0 x1 x2 y46 y47)
def zf_Mo_gotSign_j18 (F : Nat) (w : zw_T) (a0 : Nat) (x1 : Int32) (s0 : Int32) : Option (Int32 × zw_T) :=
  zf_let s0 fun y18 =>
  zf_let (0 : Int32) fun y20 =>
  zf_let (y18 - (1 : Int32)) fun y24 =>
  zf_Mo_gotSign_L26 F F w a0 x1 y18 y20 y24
def zf_Mo_gotSign (F : Nat) (w : zw_T) (a0 : Nat) (x1 : Int32) : Option (Int32 × zw_T) :=
  zf_at w 10 (some a0) fun a1 =>
  zf_at w 10 (some a0) fun a5 =>
  zf_ix w 121 (zw_R w 1578 a1 0) (zw_I w 1608 a5 0) fun a8 j8 =>
  if (zw_I w 121 a8 j8) = 0 then (
  zf_Mo_gotSign_j18 F w a0 x1 (4 : Int32))
  else (
  zf_Mo_gotSign_j18 F w a0 x1 (7 : Int32))
set_option maxHeartbeats 4000000 in
set_option maxRecDepth 100000 in
theorem zm_Mo_gotSign_L26 {X : zg_X} {D : va_G} {G : zw_G} {A : Nat → Prop} {F : Nat} {r : Int32 × zw_T} (hX : zg_ok X cMo_gotSign RMo 5 0 0 128 0 D G A) (hr : zg_rt X = some .int) (hm : zg_nm X = yMo_gotSign.name) : ∀ (n : Nat) (w : zw_T) (a0 : Nat) (x1 : Int32) (x2 : Int32) (x3 : Int32) (x4 : Int32), zf_Mo_gotSign_L26 F n w a0 x1 x2 x3 x4 = some r → zg X D G A (zg_Q X D G A 128 0 (zr_i r)) 128 0 w 26 [some (va_rf (some a0)), some (.int x1), some (.int x2), some (.int x3), some (.int x4)] [] := by
  intro n
  induction n with
  | zero =>
    intro w a0 x1 x2 x3 x4 h
    unfold zf_Mo_gotSign_L26 at h
    cases h
  | succ n ih =>
    intro w a0 x1 x2 x3 x4 h
    rw [zf_Mo_gotSign_L26] at h
    refine zg_iload hX dMo_gotSign_26 rfl ?_
    refine zg_if_lt (tgt := 53) hX dMo_gotSign_28 rfl h (fun h => ?_) (fun h => ?_)
    · refine zg_iload_n hX dMo_gotSign_53 rfl ?_
      cases h
      exact zg_iret hX hr (by decide) dMo_gotSign_54
    · refine zg_iconst hX dMo_gotSign_31 (2 : Int32) (by decide) ?_
      refine zg_iload_n hX dMo_gotSign_32 rfl ?_
      refine zg_imul hX dMo_gotSign_33 ?_
      refine zg_aload_n (x := (some a0)) hX dMo_gotSign_34 rfl ?_
      refine zg_getR (ci := 9) (k := 33) hc_9 (by decide) (by decide) hin_9 zx_653 ft_9_33 hX dMo_gotSign_35 h (fun a35 h => ?_)
      refine zg_iload_n hX dMo_gotSign_38 rfl ?_
      refine zg_iload_n hX dMo_gotSign_39 rfl ?_
      refine zg_imul hX dMo_gotSign_40 ?_
      refine zg_iload hX dMo_gotSign_41 rfl ?_
      refine zg_iadd hX dMo_gotSign_43 ?_
      refine zg_iald (kd := 140) (by decide) (by decide) hX dMo_gotSign_44 h (fun a44 j44 h => ?_)
      refine zg_iadd hX dMo_gotSign_45 ?_
      refine zg_istore_n hX dMo_gotSign_46 (Nat.le_of_ble_eq_true rfl) rfl h (fun y46 h => ?_)
      refine zg_iinc hX dMo_gotSign_47 (-1 : Int32) rfl (by decide) (Nat.le_of_ble_eq_true rfl) rfl h (fun y47 h => ?_)
      refine zg_goto (tgt := 26) hX dMo_gotSign_50 rfl ?_
      exact zg_sub (zl_k (zl_k (zl_k (zl_k (zl_k zl_n))))) (ih w a0 x1 x2 y46 y47 h)
set_option maxHeartbeats 4000000 in
set_option maxRecDepth 100000 in
theorem zm_Mo_gotSign_j18 {X : zg_X} {D : va_G} {G : zw_G} {A : Nat → Prop} {F : Nat} {r : Int32 × zw_T} (hX : zg_ok X cMo_gotSign RMo 5 0 0 128 0 D G A) (hr : zg_rt X = some .int) (hm : zg_nm X = yMo_gotSign.name) (w : zw_T) (a0 : Nat) (x1 : Int32) (s0 : Int32) (h : zf_Mo_gotSign_j18 F w a0 x1 s0 = some r) : zg X D G A (zg_Q X D G A 128 0 (zr_i r)) 128 0 w 18 [some (va_rf (some a0)), some (.int x1), none, none, none] [.int s0] := by
  unfold zf_Mo_gotSign_j18 at h
  refine zg_istore_n hX dMo_gotSign_18 (Nat.le_of_ble_eq_true rfl) rfl h (fun y18 h => ?_)
  refine zg_iconst hX dMo_gotSign_19 (0 : Int32) (by decide) ?_
  refine zg_istore_n hX dMo_gotSign_20 (Nat.le_of_ble_eq_true rfl) rfl h (fun y20 h => ?_)
  refine zg_iload_n hX dMo_gotSign_21 rfl ?_
  refine zg_iconst hX dMo_gotSign_22 (1 : Int32) (by decide) ?_
  refine zg_isub hX dMo_gotSign_23 ?_
  refine zg_istore hX dMo_gotSign_24 (Nat.le_of_ble_eq_true rfl) rfl h (fun y24 h => ?_)
  exact zg_sub (zl_k (zl_k (zl_k (zl_k (zl_k zl_n))))) (zm_Mo_gotSign_L26 hX hr hm F w a0 x1 y18 y20 y24 h)
set_option maxHeartbeats 4000000 in
set_option maxRecDepth 100000 in
theorem zm_Mo_gotSign (l : Launch) (D : va_G) (G : zw_G) (A : Nat → Prop) (F : Nat) (w : zw_T) (a0 : Nat) (x1 : Int32) (r : Int32 × zw_T) (h : zf_Mo_gotSign F w a0 x1 = some r) : zc l yMo_gotSign wsMo_gotSign 0 0 128 0 D G A [.ref a0, .int x1] w (zr_i r) := by
  refine zc_of (ret := some .int) [some (va_rf (some a0)), some (.int x1), none, none, none] (plainFor_of_name (by decide +kernel)) rfl (Nat.le_of_ble_eq_true rfl) rfl rfl (fun X hX hr hm => ?_)
  unfold zf_Mo_gotSign at h
  refine zg_aload_n (x := (some a0)) hX dMo_gotSign_0 rfl ?_
  refine zg_getR (ci := 9) (k := 2) hc_9 (by decide) (by decide) hin_9 zx_624 ft_9_2 hX dMo_gotSign_1 h (fun a1 h => ?_)
  refine zg_aload_n (x := (some a0)) hX dMo_gotSign_4 rfl ?_
  refine zg_getI (ci := 9) (k := 32) hc_9 (by decide) (by decide) hin_9 zx_652 ft_9_32 hX dMo_gotSign_5 h (fun a5 h => ?_)
  refine zg_iald (kd := 121) (by decide) (by decide) hX dMo_gotSign_8 h (fun a8 j8 h => ?_)
  refine zg_if_ne (tgt := 16) hX dMo_gotSign_9 rfl h (fun h => ?_) (fun h => ?_)
  · refine zg_iconst hX dMo_gotSign_12 (4 : Int32) (by decide) ?_
    refine zg_goto (tgt := 18) hX dMo_gotSign_13 rfl ?_
    exact zg_sub (zl_k (zl_k (zl_d (zl_d (zl_d zl_n))))) (zm_Mo_gotSign_j18 hX hr hm w a0 x1 (4 : Int32) h)
  · refine zg_bipush hX dMo_gotSign_16 (7 : Int32) (by decide) ?_
    exact zg_sub (zl_k (zl_k (zl_d (zl_d (zl_d zl_n))))) (zm_Mo_gotSign_j18 hX hr hm w a0 x1 (7 : Int32) h)
def zf_Mo_numberOf (F : Nat) (w : zw_T) (a0 : Nat) (x1 : Int32) : Option (Int32 × zw_T) :=
  zf_at w 10 (some a0) fun a1 =>
  zf_at w 10 (some a0) fun a5 =>
  zf_ix w 121 (zw_R w 1578 a1 0) (zw_I w 1608 a5 0) fun a8 j8 =>
  if (zw_I w 121 a8 j8) = (1 : Int32) then (
  if x1 ≤ 0 then (
  some ((-1 : Int32), w))
  else (
  zf_at w 10 (some a0) fun a19 =>
  zf_bd (zf_Mo_gotSign F w a19 (0 : Int32)) fun v19 w19 =>
  if v19 < (32 : Int32) then (
  some ((-1 : Int32), w19))
  else (
  zf_at w19 10 (some a0) fun a29 =>
  zf_bd (zf_Mo_gotSign F w19 a29 (0 : Int32)) fun v29 w29 =>
  if (95 : Int32) < v29 then (
  some ((-1 : Int32), w29))
  else (
  zf_at w29 10 (some a0) fun a39 =>
  zf_bd (zf_Mo_gotSign F w29 a39 (0 : Int32)) fun v39 w39 =>
  some ((v39 - (32 : Int32)), w39)))))
  else (
  if x1 < (2 : Int32) then (
  some ((-1 : Int32), w))
  else (
  zf_at w 10 (some a0) fun a57 =>
  zf_bd (zf_Mo_gotSign F w a57 (0 : Int32)) fun v57 w57 =>
  if (9 : Int32) < v57 then (
  some ((-1 : Int32), w57))
  else (
  zf_at w57 10 (some a0) fun a67 =>
  zf_bd (zf_Mo_gotSign F w57 a67 (1 : Int32)) fun v67 w67 =>
  if v67 ≤ (9 : Int32) then (
  zf_at w67 10 (some a0) fun a81 =>
  zf_bd (zf_Mo_gotSign F w67 a81 (0 : Int32)) fun v81 w81 =>
  zf_at w81 10 (some a0) fun a87 =>
  zf_bd (zf_Mo_gotSign F w81 a87 (1 : Int32)) fun v87 w87 =>
  zf_let (((10 : Int32) * v81) + v87) fun y91 =>
  if y91 ≤ (63 : Int32) then (
  some (y91, w87))
  else (
  some ((-1 : Int32), w87)))
  else (
  some ((-1 : Int32), w67)))))
set_option maxHeartbeats 4000000 in
set_option maxRecDepth 100000 in
theorem zm_Mo_numberOf (l : Launch) (D : va_G) (G : zw_G) (A : Nat → Prop) (F : Nat) (w : zw_T) (a0 : Nat) (x1 : Int32) (r : Int32 × zw_T) (h : zf_Mo_numberOf F w a0 x1 = some r) : zc l yMo_numberOf wsMo_numberOf 1 24 128 0 D G A [.ref a0, .int x1] w (zr_i r) := by
  refine zc_of (ret := some .int) [some (va_rf (some a0)), some (.int x1), none] (plainFor_of_name (by decide +kernel)) rfl (Nat.le_of_ble_eq_true rfl) rfl rfl (fun X hX hr hm => ?_)
  unfold zf_Mo_numberOf at h
  refine zg_aload_n (x := (some a0)) hX dMo_numberOf_0 rfl ?_
  refine zg_getR (ci := 9) (k := 2) hc_9 (by decide) (by decide) hin_9 zx_624 ft_9_2 hX dMo_numberOf_1 h (fun a1 h => ?_)
  refine zg_aload_n (x := (some a0)) hX dMo_numberOf_4 rfl ?_
  refine zg_getI (ci := 9) (k := 32) hc_9 (by decide) (by decide) hin_9 zx_652 ft_9_32 hX dMo_numberOf_5 h (fun a5 h => ?_)
  refine zg_iald (kd := 121) (by decide) (by decide) hX dMo_numberOf_8 h (fun a8 j8 h => ?_)
  refine zg_iconst hX dMo_numberOf_9 (1 : Int32) (by decide) ?_
  refine zg_icmp_ne (tgt := 50) hX dMo_numberOf_10 rfl h (fun h => ?_) (fun h => ?_)
  · refine zg_iload_n hX dMo_numberOf_13 rfl ?_
    refine zg_if_le (tgt := 48) hX dMo_numberOf_14 rfl h (fun h => ?_) (fun h => ?_)
    · refine zg_iconst hX dMo_numberOf_48 (-1 : Int32) (by decide) ?_
      cases h
      exact zg_iret hX hr (by decide) dMo_numberOf_49
    · refine zg_aload_n (x := (some a0)) hX dMo_numberOf_17 rfl ?_
      refine zg_iconst hX dMo_numberOf_18 (0 : Int32) (by decide) ?_
      obtain ⟨a19, e19, t19, h⟩ := zf_at_e h
      obtain ⟨v19, w19, q19, h⟩ := zf_bd_e h
      refine zg_callV_i (mcy := 0) (v := v19) (w1 := w19) (st := []) hc_9 (by decide) e19 t19 [.int (0 : Int32)] (fun l => zm_Mo_gotSign l D G A F w a19 (0 : Int32) (v19, w19) q19) (zt_V zx_876 zx_878 zs_35 zx_5 zx_879) rfl hd_Mo_gotSign (by decide) (by decide) (by decide) (Nat.le_of_ble_eq_true rfl) rfl rfl hX dMo_numberOf_19 ?_
      refine zg_bipush hX dMo_numberOf_22 (32 : Int32) (by decide) ?_
      refine zg_icmp_lt (tgt := 48) hX dMo_numberOf_24 rfl h (fun h => ?_) (fun h => ?_)
      · refine zg_iconst hX dMo_numberOf_48 (-1 : Int32) (by decide) ?_
        cases h
        exact zg_iret hX hr (by decide) dMo_numberOf_49
      · refine zg_aload_n (x := (some a0)) hX dMo_numberOf_27 rfl ?_
        refine zg_iconst hX dMo_numberOf_28 (0 : Int32) (by decide) ?_
        obtain ⟨a29, e29, t29, h⟩ := zf_at_e h
        obtain ⟨v29, w29, q29, h⟩ := zf_bd_e h
        refine zg_callV_i (mcy := 0) (v := v29) (w1 := w29) (st := []) hc_9 (by decide) e29 t29 [.int (0 : Int32)] (fun l => zm_Mo_gotSign l D G A F w19 a29 (0 : Int32) (v29, w29) q29) (zt_V zx_876 zx_878 zs_35 zx_5 zx_879) rfl hd_Mo_gotSign (by decide) (by decide) (by decide) (Nat.le_of_ble_eq_true rfl) rfl rfl hX dMo_numberOf_29 ?_
        refine zg_bipush hX dMo_numberOf_32 (95 : Int32) (by decide) ?_
        refine zg_icmp_gt (tgt := 48) hX dMo_numberOf_34 rfl h (fun h => ?_) (fun h => ?_)
        · refine zg_iconst hX dMo_numberOf_48 (-1 : Int32) (by decide) ?_
          cases h
          exact zg_iret hX hr (by decide) dMo_numberOf_49
        · refine zg_aload_n (x := (some a0)) hX dMo_numberOf_37 rfl ?_
          refine zg_iconst hX dMo_numberOf_38 (0 : Int32) (by decide) ?_
          obtain ⟨a39, e39, t39, h⟩ := zf_at_e h
          obtain ⟨v39, w39, q39, h⟩ := zf_bd_e h
          refine zg_callV_i (mcy := 0) (v := v39) (w1 := w39) (st := []) hc_9 (by decide) e39 t39 [.int (0 : Int32)] (fun l => zm_Mo_gotSign l D G A F w29 a39 (0 : Int32) (v39, w39) q39) (zt_V zx_876 zx_878 zs_35 zx_5 zx_879) rfl hd_Mo_gotSign (by decide) (by decide) (by decide) (Nat.le_of_ble_eq_true rfl) rfl rfl hX dMo_numberOf_39 ?_
          refine zg_bipush hX dMo_numberOf_42 (32 : Int32) (by decide) ?_
          refine zg_isub hX dMo_numberOf_44 ?_
          refine zg_goto (tgt := 49) hX dMo_numberOf_45 rfl ?_
          cases h
          exact zg_iret hX hr (by decide) dMo_numberOf_49
  · refine zg_iload_n hX dMo_numberOf_50 rfl ?_
    refine zg_iconst hX dMo_numberOf_51 (2 : Int32) (by decide) ?_
    refine zg_icmp_lt (tgt := 75) hX dMo_numberOf_52 rfl h (fun h => ?_) (fun h => ?_)
    · refine zg_iconst hX dMo_numberOf_75 (-1 : Int32) (by decide) ?_
      cases h
      exact zg_iret hX hr (by decide) dMo_numberOf_76
    · refine zg_aload_n (x := (some a0)) hX dMo_numberOf_55 rfl ?_
      refine zg_iconst hX dMo_numberOf_56 (0 : Int32) (by decide) ?_
      obtain ⟨a57, e57, t57, h⟩ := zf_at_e h
      obtain ⟨v57, w57, q57, h⟩ := zf_bd_e h
      refine zg_callV_i (mcy := 0) (v := v57) (w1 := w57) (st := []) hc_9 (by decide) e57 t57 [.int (0 : Int32)] (fun l => zm_Mo_gotSign l D G A F w a57 (0 : Int32) (v57, w57) q57) (zt_V zx_876 zx_878 zs_35 zx_5 zx_879) rfl hd_Mo_gotSign (by decide) (by decide) (by decide) (Nat.le_of_ble_eq_true rfl) rfl rfl hX dMo_numberOf_57 ?_
      refine zg_bipush hX dMo_numberOf_60 (9 : Int32) (by decide) ?_
      refine zg_icmp_gt (tgt := 75) hX dMo_numberOf_62 rfl h (fun h => ?_) (fun h => ?_)
      · refine zg_iconst hX dMo_numberOf_75 (-1 : Int32) (by decide) ?_
        cases h
        exact zg_iret hX hr (by decide) dMo_numberOf_76
      · refine zg_aload_n (x := (some a0)) hX dMo_numberOf_65 rfl ?_
        refine zg_iconst hX dMo_numberOf_66 (1 : Int32) (by decide) ?_
        obtain ⟨a67, e67, t67, h⟩ := zf_at_e h
        obtain ⟨v67, w67, q67, h⟩ := zf_bd_e h
        refine zg_callV_i (mcy := 0) (v := v67) (w1 := w67) (st := []) hc_9 (by decide) e67 t67 [.int (1 : Int32)] (fun l => zm_Mo_gotSign l D G A F w57 a67 (1 : Int32) (v67, w67) q67) (zt_V zx_876 zx_878 zs_35 zx_5 zx_879) rfl hd_Mo_gotSign (by decide) (by decide) (by decide) (Nat.le_of_ble_eq_true rfl) rfl rfl hX dMo_numberOf_67 ?_
        refine zg_bipush hX dMo_numberOf_70 (9 : Int32) (by decide) ?_
        refine zg_icmp_le (tgt := 77) hX dMo_numberOf_72 rfl h (fun h => ?_) (fun h => ?_)
        · refine zg_bipush hX dMo_numberOf_77 (10 : Int32) (by decide) ?_
          refine zg_aload_n (x := (some a0)) hX dMo_numberOf_79 rfl ?_
          refine zg_iconst hX dMo_numberOf_80 (0 : Int32) (by decide) ?_
          obtain ⟨a81, e81, t81, h⟩ := zf_at_e h
          obtain ⟨v81, w81, q81, h⟩ := zf_bd_e h
          refine zg_callV_i (mcy := 0) (v := v81) (w1 := w81) (st := [.int (10 : Int32)]) hc_9 (by decide) e81 t81 [.int (0 : Int32)] (fun l => zm_Mo_gotSign l D G A F w67 a81 (0 : Int32) (v81, w81) q81) (zt_V zx_876 zx_878 zs_35 zx_5 zx_879) rfl hd_Mo_gotSign (by decide) (by decide) (by decide) (Nat.le_of_ble_eq_true rfl) rfl rfl hX dMo_numberOf_81 ?_
          refine zg_imul hX dMo_numberOf_84 ?_
          refine zg_aload_n (x := (some a0)) hX dMo_numberOf_85 rfl ?_
          refine zg_iconst hX dMo_numberOf_86 (1 : Int32) (by decide) ?_
          obtain ⟨a87, e87, t87, h⟩ := zf_at_e h
          obtain ⟨v87, w87, q87, h⟩ := zf_bd_e h
          refine zg_callV_i (mcy := 0) (v := v87) (w1 := w87) (st := [.int ((10 : Int32) * v81)]) hc_9 (by decide) e87 t87 [.int (1 : Int32)] (fun l => zm_Mo_gotSign l D G A F w81 a87 (1 : Int32) (v87, w87) q87) (zt_V zx_876 zx_878 zs_35 zx_5 zx_879) rfl hd_Mo_gotSign (by decide) (by decide) (by decide) (Nat.le_of_ble_eq_true rfl) rfl rfl hX dMo_numberOf_87 ?_
          refine zg_iadd hX dMo_numberOf_90 ?_
          refine zg_istore_n hX dMo_numberOf_91 (Nat.le_of_ble_eq_true rfl) rfl h (fun y91 h => ?_)
          refine zg_iload_n hX dMo_numberOf_92 rfl ?_
          refine zg_bipush hX dMo_numberOf_93 (63 : Int32) (by decide) ?_
          refine zg_icmp_le (tgt := 102) hX dMo_numberOf_95 rfl h (fun h => ?_) (fun h => ?_)
          · refine zg_iload_n hX dMo_numberOf_102 rfl ?_
            cases h
            exact zg_iret hX hr (by decide) dMo_numberOf_103
          · refine zg_iconst hX dMo_numberOf_98 (-1 : Int32) (by decide) ?_
            refine zg_goto (tgt := 103) hX dMo_numberOf_99 rfl ?_
            cases h
            exact zg_iret hX hr (by decide) dMo_numberOf_103
        · refine zg_iconst hX dMo_numberOf_75 (-1 : Int32) (by decide) ?_
          cases h
          exact zg_iret hX hr (by decide) dMo_numberOf_76
def zf_Mo_room_j146 (F : Nat) (w : zw_T) (a0 : Nat) (x1 : Int32) : Option (Int32 × zw_T) :=
  zf_at w 10 (some a0) fun a147 =>
  zf_at w 10 (some a0) fun a151 =>
  zf_ix w 133 (zw_R w 1598 a147 0) (zw_I w 1607 a151 0) fun a155 j155 =>
  zf_ix w 133 (zw_R w 1598 a147 0) (zw_I w 1607 a151 0) fun a158 j158 => zf_let (zw_sI w 133 a158 j158 ((zw_I w 133 a155 j155) + (1 : Int32))) fun w158 =>
  zf_at w158 10 (some a0) fun a161 =>
  zf_at w158 10 (some a0) fun a165 =>
  zf_ix w158 133 (zw_R w158 1598 a161 0) (zw_I w158 1607 a165 0) fun a168 j168 =>
  some (((x1 + (zw_I w158 133 a168 j168)) - (1 : Int32)), w158)
def zf_Mo_room_L90 (F : Nat) (k24 : zw_T → Nat → Int32 → Int32 → Option (Int32 × zw_T)) : Nat → zw_T → Nat → Int32 → Int32 → Int32 → Option (Int32 × zw_T)
  | 0, _, _, _, _, _ => none
  | n + 1, w, a0, x1, x2, x3 =>
  if (22 : Int32) ≤ x3 then (
  zf_let (x2 + (1 : Int32)) fun y127 =>
  k24 w a0 x1 y127)
  else (
  zf_at w 10 (some a0) fun a97 =>
  zf_at w 10 (some a0) fun a107 =>
  zf_ix w 137 (zw_R w 1603 a107 0) ((((22 : Int32) * x2) + (22 : Int32)) + x3) fun a119 j119 =>
  zf_ix w 137 (zw_R w 1603 a97 0) (((22 : Int32) * x2) + x3) fun a120 j120 => zf_let (zw_sI w 137 a120 j120 (zw_I w 137 a119 j119)) fun w120 =>
  zf_let (x3 + (1 : Int32)) fun y121 =>
  zf_Mo_room_L90 F k24 n w120 a0 x1 x2 y121)
def zf_Mo_room_L24 (F : Nat) : Nat → zw_T → Nat → Int32 → Int32 → Option (Int32 × zw_T)
  | 0, _, _, _, _ => none
  | n + 1, w, a0, x1, x2 =>
  if (x1 + (9 : Int32)) ≤ x2 then (
  zf_at w 10 (some a0) fun a134 =>
  zf_at w 10 (some a0) fun a138 =>
  zf_ix w 133 (zw_R w 1598 a134 0) (zw_I w 1607 a138 0) fun a142 j142 =>
  zf_ix w 133 (zw_R w 1598 a134 0) (zw_I w 1607 a138 0) fun a145 j145 => zf_let (zw_sI w 133 a145 j145 ((zw_I w 133 a142 j142) - (1 : Int32))) fun w145 =>
  zf_Mo_room_j146 F w145 a0 x1)
  else (
  zf_at w 10 (some a0) fun a33 =>
  zf_at w 10 (some a0) fun a38 =>
  zf_ix w 134 (zw_R w 1599 a38 0) (x2 + (1 : Int32)) fun a44 j44 =>
  zf_ix w 134 (zw_R w 1599 a33 0) x2 fun a45 j45 => zf_let (zw_sI w 134 a45 j45 (zw_I w 134 a44 j44)) fun w45 =>
  zf_at w45 10 (some a0) fun a47 =>
  zf_at w45 10 (some a0) fun a52 =>
  zf_ix w45 135 (zw_R w45 1600 a52 0) (x2 + (1 : Int32)) fun a58 j58 =>
  zf_ix w45 135 (zw_R w45 1600 a47 0) x2 fun a59 j59 => zf_let (zw_sI w45 135 a59 j59 (zw_I w45 135 a58 j58)) fun w59 =>
  zf_at w59 10 (some a0) fun a61 =>
  zf_at w59 10 (some a0) fun a66 =>
  zf_ix w59 136 (zw_R w59 1601 a66 0) (x2 + (1 : Int32)) fun a72 j72 =>
  zf_ix w59 136 (zw_R w59 1601 a61 0) x2 fun a73 j73 => zf_let (zw_sI w59 136 a73 j73 (zw_I w59 136 a72 j72)) fun w73 =>
  zf_at w73 10 (some a0) fun a75 =>
  zf_at w73 10 (some a0) fun a80 =>
  zf_ix w73 202 (zw_R w73 1602 a80 0) (x2 + (1 : Int32)) fun a86 j86 =>
  zf_ix w73 202 (zw_R w73 1602 a75 0) x2 fun a87 j87 => zf_let (zw_sI w73 202 a87 j87 (vp_nar .boolean (zw_I w73 202 a86 j86))) fun w87 =>
  zf_let (0 : Int32) fun y89 =>
  zf_Mo_room_L90 F (zf_Mo_room_L24 F n) F w87 a0 x1 x2 y89)
def zf_Mo_room (F : Nat) (w : zw_T) (a0 : Nat) : Option (Int32 × zw_T) :=
  zf_at w 10 (some a0) fun a3 =>
  zf_let ((10 : Int32) * (zw_I w 1607 a3 0)) fun y7 =>
  zf_at w 10 (some a0) fun a9 =>
  zf_at w 10 (some a0) fun a13 =>
  zf_ix w 133 (zw_R w 1598 a9 0) (zw_I w 1607 a13 0) fun a16 j16 =>
  if (zw_I w 133 a16 j16) = (10 : Int32) then (
  zf_let y7 fun y23 =>
  zf_Mo_room_L24 F F w a0 y7 y23)
  else (
  zf_Mo_room_j146 F w a0 y7)
set_option maxHeartbeats 4000000 in
set_option maxRecDepth 100000 in
theorem zm_Mo_room_j146 {X : zg_X} {D : va_G} {G : zw_G} {A : Nat → Prop} {F : Nat} {r : Int32 × zw_T} (hX : zg_ok X cMo_room RMo 4 0 0 128 0 D G A) (hr : zg_rt X = some .int) (hm : zg_nm X = yMo_room.name) (w : zw_T) (a0 : Nat) (x1 : Int32) (h : zf_Mo_room_j146 F w a0 x1 = some r) : zg X D G A (zg_Q X D G A 128 0 (zr_i r)) 128 0 w 146 [some (va_rf (some a0)), some (.int x1), none, none] [] := by
  unfold zf_Mo_room_j146 at h
  refine zg_aload_n (x := (some a0)) hX dMo_room_146 rfl ?_
  refine zg_getR (ci := 9) (k := 22) hc_9 (by decide) (by decide) hin_9 zx_642 ft_9_22 hX dMo_room_147 h (fun a147 h => ?_)
  refine zg_aload_n (x := (some a0)) hX dMo_room_150 rfl ?_
  refine zg_getI (ci := 9) (k := 31) hc_9 (by decide) (by decide) hin_9 zx_651 ft_9_31 hX dMo_room_151 h (fun a151 h => ?_)
  refine zg_dup2 hX dMo_room_154 rfl (zv_cat _) ?_
  refine zg_iald (kd := 133) (by decide) (by decide) hX dMo_room_155 h (fun a155 j155 h => ?_)
  refine zg_iconst hX dMo_room_156 (1 : Int32) (by decide) ?_
  refine zg_iadd hX dMo_room_157 ?_
  refine zg_iast (kd := 133) (by decide) (by decide) hX dMo_room_158 h (fun w158 h => ?_)
  refine zg_iload_n hX dMo_room_159 rfl ?_
  refine zg_aload_n (x := (some a0)) hX dMo_room_160 rfl ?_
  refine zg_getR (ci := 9) (k := 22) hc_9 (by decide) (by decide) hin_9 zx_642 ft_9_22 hX dMo_room_161 h (fun a161 h => ?_)
  refine zg_aload_n (x := (some a0)) hX dMo_room_164 rfl ?_
  refine zg_getI (ci := 9) (k := 31) hc_9 (by decide) (by decide) hin_9 zx_651 ft_9_31 hX dMo_room_165 h (fun a165 h => ?_)
  refine zg_iald (kd := 133) (by decide) (by decide) hX dMo_room_168 h (fun a168 j168 h => ?_)
  refine zg_iadd hX dMo_room_169 ?_
  refine zg_iconst hX dMo_room_170 (1 : Int32) (by decide) ?_
  refine zg_isub hX dMo_room_171 ?_
  cases h
  exact zg_iret hX hr (by decide) dMo_room_172
set_option maxHeartbeats 4000000 in
set_option maxRecDepth 100000 in
theorem zm_Mo_room_L90 {X : zg_X} {D : va_G} {G : zw_G} {A : Nat → Prop} {F : Nat} {k24 : zw_T → Nat → Int32 → Int32 → Option (Int32 × zw_T)} {r : Int32 × zw_T} (hX : zg_ok X cMo_room RMo 4 0 0 128 0 D G A) (hr : zg_rt X = some .int) (hm : zg_nm X = yMo_room.name) (hk24 : ∀ (w : zw_T) (a0 : Nat) (x1 : Int32) (x2 : Int32), k24 w a0 x1 x2 = some r → zg X D G A (zg_Q X D G A 128 0 (zr_i r)) 128 0 w 24 [some (va_rf (some a0)), some (.int x1), some (.int x2), none] []) : ∀ (n : Nat) (w : zw_T) (a0 : Nat) (x1 : Int32) (x2 : Int32) (x3 : Int32), zf_Mo_room_L90 F k24 n w a0 x1 x2 x3 = some r → zg X D G A (zg_Q X D G A 128 0 (zr_i r)) 128 0 w 90 [some (va_rf (some a0)), some (.int x1), some (.int x2), some (.int x3)] [] := by
  intro n
  induction n with
  | zero =>
    intro w a0 x1 x2 x3 h
    unfold zf_Mo_room_L90 at h
    cases h
  | succ n ih =>
    intro w a0 x1 x2 x3 h
    rw [zf_Mo_room_L90] at h
    refine zg_iload_n hX dMo_room_90 rfl ?_
    refine zg_bipush hX dMo_room_91 (22 : Int32) (by decide) ?_
    refine zg_icmp_ge (tgt := 127) hX dMo_room_93 rfl h (fun h => ?_) (fun h => ?_)
    · refine zg_iinc hX dMo_room_127 (1 : Int32) rfl (by decide) (Nat.le_of_ble_eq_true rfl) rfl h (fun y127 h => ?_)
      refine zg_goto (tgt := 24) hX dMo_room_130 rfl ?_
      exact zg_sub (zl_k (zl_k (zl_k (zl_d zl_n)))) (hk24 w a0 x1 y127 h)
    · refine zg_aload_n (x := (some a0)) hX dMo_room_96 rfl ?_
      refine zg_getR (ci := 9) (k := 27) hc_9 (by decide) (by decide) hin_9 zx_647 ft_9_27 hX dMo_room_97 h (fun a97 h => ?_)
      refine zg_bipush hX dMo_room_100 (22 : Int32) (by decide) ?_
      refine zg_iload_n hX dMo_room_102 rfl ?_
      refine zg_imul hX dMo_room_103 ?_
      refine zg_iload_n hX dMo_room_104 rfl ?_
      refine zg_iadd hX dMo_room_105 ?_
      refine zg_aload_n (x := (some a0)) hX dMo_room_106 rfl ?_
      refine zg_getR (ci := 9) (k := 27) hc_9 (by decide) (by decide) hin_9 zx_647 ft_9_27 hX dMo_room_107 h (fun a107 h => ?_)
      refine zg_bipush hX dMo_room_110 (22 : Int32) (by decide) ?_
      refine zg_iload_n hX dMo_room_112 rfl ?_
      refine zg_imul hX dMo_room_113 ?_
      refine zg_bipush hX dMo_room_114 (22 : Int32) (by decide) ?_
      refine zg_iadd hX dMo_room_116 ?_
      refine zg_iload_n hX dMo_room_117 rfl ?_
      refine zg_iadd hX dMo_room_118 ?_
      refine zg_iald (kd := 137) (by decide) (by decide) hX dMo_room_119 h (fun a119 j119 h => ?_)
      refine zg_iast (kd := 137) (by decide) (by decide) hX dMo_room_120 h (fun w120 h => ?_)
      refine zg_iinc hX dMo_room_121 (1 : Int32) rfl (by decide) (Nat.le_of_ble_eq_true rfl) rfl h (fun y121 h => ?_)
      refine zg_goto (tgt := 90) hX dMo_room_124 rfl ?_
      exact zg_sub (zl_k (zl_k (zl_k (zl_k zl_n)))) (ih w120 a0 x1 x2 y121 h)
set_option maxHeartbeats 4000000 in
set_option maxRecDepth 100000 in
theorem zm_Mo_room_L24 {X : zg_X} {D : va_G} {G : zw_G} {A : Nat → Prop} {F : Nat} {r : Int32 × zw_T} (hX : zg_ok X cMo_room RMo 4 0 0 128 0 D G A) (hr : zg_rt X = some .int) (hm : zg_nm X = yMo_room.name) : ∀ (n : Nat) (w : zw_T) (a0 : Nat) (x1 : Int32) (x2 : Int32), zf_Mo_room_L24 F n w a0 x1 x2 = some r → zg X D G A (zg_Q X D G A 128 0 (zr_i r)) 128 0 w 24 [some (va_rf (some a0)), some (.int x1), some (.int x2), none] [] := by
  intro n
  induction n with
  | zero =>
    intro w a0 x1 x2 h
    unfold zf_Mo_room_L24 at h
    cases h
  | succ n ih =>
    intro w a0 x1 x2 h
    rw [zf_Mo_room_L24] at h
    refine zg_iload_n hX dMo_room_24 rfl ?_
    refine zg_iload_n hX dMo_room_25 rfl ?_
    refine zg_bipush hX dMo_room_26 (9 : Int32) (by decide) ?_
    refine zg_iadd hX dMo_room_28 ?_
    refine zg_icmp_ge (tgt := 133) hX dMo_room_29 rfl h (fun h => ?_) (fun h => ?_)
    · refine zg_aload_n (x := (some a0)) hX dMo_room_133 rfl ?_
      refine zg_getR (ci := 9) (k := 22) hc_9 (by decide) (by decide) hin_9 zx_642 ft_9_22 hX dMo_room_134 h (fun a134 h => ?_)
      refine zg_aload_n (x := (some a0)) hX dMo_room_137 rfl ?_
      refine zg_getI (ci := 9) (k := 31) hc_9 (by decide) (by decide) hin_9 zx_651 ft_9_31 hX dMo_room_138 h (fun a138 h => ?_)
      refine zg_dup2 hX dMo_room_141 rfl (zv_cat _) ?_
      refine zg_iald (kd := 133) (by decide) (by decide) hX dMo_room_142 h (fun a142 j142 h => ?_)
      refine zg_iconst hX dMo_room_143 (1 : Int32) (by decide) ?_
      refine zg_isub hX dMo_room_144 ?_
      refine zg_iast (kd := 133) (by decide) (by decide) hX dMo_room_145 h (fun w145 h => ?_)
      exact zg_sub (zl_k (zl_k (zl_d (zl_d zl_n)))) (zm_Mo_room_j146 hX hr hm w145 a0 x1 h)
    · refine zg_aload_n (x := (some a0)) hX dMo_room_32 rfl ?_
      refine zg_getR (ci := 9) (k := 23) hc_9 (by decide) (by decide) hin_9 zx_643 ft_9_23 hX dMo_room_33 h (fun a33 h => ?_)
      refine zg_iload_n hX dMo_room_36 rfl ?_
      refine zg_aload_n (x := (some a0)) hX dMo_room_37 rfl ?_
      refine zg_getR (ci := 9) (k := 23) hc_9 (by decide) (by decide) hin_9 zx_643 ft_9_23 hX dMo_room_38 h (fun a38 h => ?_)
      refine zg_iload_n hX dMo_room_41 rfl ?_
      refine zg_iconst hX dMo_room_42 (1 : Int32) (by decide) ?_
      refine zg_iadd hX dMo_room_43 ?_
      refine zg_iald (kd := 134) (by decide) (by decide) hX dMo_room_44 h (fun a44 j44 h => ?_)
      refine zg_iast (kd := 134) (by decide) (by decide) hX dMo_room_45 h (fun w45 h => ?_)
      refine zg_aload_n (x := (some a0)) hX dMo_room_46 rfl ?_
      refine zg_getR (ci := 9) (k := 24) hc_9 (by decide) (by decide) hin_9 zx_644 ft_9_24 hX dMo_room_47 h (fun a47 h => ?_)
      refine zg_iload_n hX dMo_room_50 rfl ?_
      refine zg_aload_n (x := (some a0)) hX dMo_room_51 rfl ?_
      refine zg_getR (ci := 9) (k := 24) hc_9 (by decide) (by decide) hin_9 zx_644 ft_9_24 hX dMo_room_52 h (fun a52 h => ?_)
      refine zg_iload_n hX dMo_room_55 rfl ?_
      refine zg_iconst hX dMo_room_56 (1 : Int32) (by decide) ?_
      refine zg_iadd hX dMo_room_57 ?_
      refine zg_iald (kd := 135) (by decide) (by decide) hX dMo_room_58 h (fun a58 j58 h => ?_)
      refine zg_iast (kd := 135) (by decide) (by decide) hX dMo_room_59 h (fun w59 h => ?_)
      refine zg_aload_n (x := (some a0)) hX dMo_room_60 rfl ?_
      refine zg_getR (ci := 9) (k := 25) hc_9 (by decide) (by decide) hin_9 zx_645 ft_9_25 hX dMo_room_61 h (fun a61 h => ?_)
      refine zg_iload_n hX dMo_room_64 rfl ?_
      refine zg_aload_n (x := (some a0)) hX dMo_room_65 rfl ?_
      refine zg_getR (ci := 9) (k := 25) hc_9 (by decide) (by decide) hin_9 zx_645 ft_9_25 hX dMo_room_66 h (fun a66 h => ?_)
      refine zg_iload_n hX dMo_room_69 rfl ?_
      refine zg_iconst hX dMo_room_70 (1 : Int32) (by decide) ?_
      refine zg_iadd hX dMo_room_71 ?_
      refine zg_iald (kd := 136) (by decide) (by decide) hX dMo_room_72 h (fun a72 j72 h => ?_)
      refine zg_iast (kd := 136) (by decide) (by decide) hX dMo_room_73 h (fun w73 h => ?_)
      refine zg_aload_n (x := (some a0)) hX dMo_room_74 rfl ?_
      refine zg_getR (ci := 9) (k := 26) hc_9 (by decide) (by decide) hin_9 zx_646 ft_9_26 hX dMo_room_75 h (fun a75 h => ?_)
      refine zg_iload_n hX dMo_room_78 rfl ?_
      refine zg_aload_n (x := (some a0)) hX dMo_room_79 rfl ?_
      refine zg_getR (ci := 9) (k := 26) hc_9 (by decide) (by decide) hin_9 zx_646 ft_9_26 hX dMo_room_80 h (fun a80 h => ?_)
      refine zg_iload_n hX dMo_room_83 rfl ?_
      refine zg_iconst hX dMo_room_84 (1 : Int32) (by decide) ?_
      refine zg_iadd hX dMo_room_85 ?_
      refine zg_zald (kd := 202) (by decide) (by decide) hX dMo_room_86 h (fun a86 j86 h => ?_)
      refine zg_zast (kd := 202) (by decide) (by decide) hX dMo_room_87 h (fun w87 h => ?_)
      refine zg_iconst hX dMo_room_88 (0 : Int32) (by decide) ?_
      refine zg_istore_n hX dMo_room_89 (Nat.le_of_ble_eq_true rfl) rfl h (fun y89 h => ?_)
      exact zg_sub (zl_k (zl_k (zl_k (zl_k zl_n)))) (zm_Mo_room_L90 hX hr hm ih F w87 a0 x1 x2 y89 h)
set_option maxHeartbeats 4000000 in
set_option maxRecDepth 100000 in
theorem zm_Mo_room (l : Launch) (D : va_G) (G : zw_G) (A : Nat → Prop) (F : Nat) (w : zw_T) (a0 : Nat) (r : Int32 × zw_T) (h : zf_Mo_room F w a0 = some r) : zc l yMo_room wsMo_room 0 0 128 0 D G A [.ref a0] w (zr_i r) := by
  refine zc_of (ret := some .int) [some (va_rf (some a0)), none, none, none] (plainFor_of_name (by decide +kernel)) rfl (Nat.le_of_ble_eq_true rfl) rfl rfl (fun X hX hr hm => ?_)
  unfold zf_Mo_room at h
  refine zg_bipush hX dMo_room_0 (10 : Int32) (by decide) ?_
  refine zg_aload_n (x := (some a0)) hX dMo_room_2 rfl ?_
  refine zg_getI (ci := 9) (k := 31) hc_9 (by decide) (by decide) hin_9 zx_651 ft_9_31 hX dMo_room_3 h (fun a3 h => ?_)
  refine zg_imul hX dMo_room_6 ?_
  refine zg_istore_n hX dMo_room_7 (Nat.le_of_ble_eq_true rfl) rfl h (fun y7 h => ?_)
  refine zg_aload_n (x := (some a0)) hX dMo_room_8 rfl ?_
  refine zg_getR (ci := 9) (k := 22) hc_9 (by decide) (by decide) hin_9 zx_642 ft_9_22 hX dMo_room_9 h (fun a9 h => ?_)
  refine zg_aload_n (x := (some a0)) hX dMo_room_12 rfl ?_
  refine zg_getI (ci := 9) (k := 31) hc_9 (by decide) (by decide) hin_9 zx_651 ft_9_31 hX dMo_room_13 h (fun a13 h => ?_)
  refine zg_iald (kd := 133) (by decide) (by decide) hX dMo_room_16 h (fun a16 j16 h => ?_)
  refine zg_bipush hX dMo_room_17 (10 : Int32) (by decide) ?_
  refine zg_icmp_ne (tgt := 146) hX dMo_room_19 rfl h (fun h => ?_) (fun h => ?_)
  · refine zg_iload_n hX dMo_room_22 rfl ?_
    refine zg_istore_n hX dMo_room_23 (Nat.le_of_ble_eq_true rfl) rfl h (fun y23 h => ?_)
    exact zg_sub (zl_k (zl_k (zl_k (zl_d zl_n)))) (zm_Mo_room_L24 hX hr hm F w a0 y7 y23 h)
  · exact zg_sub (zl_k (zl_k (zl_d (zl_d zl_n)))) (zm_Mo_room_j146 hX hr hm w a0 y7 h)
def zf_Mo_note_j127 (F : Nat) (w : zw_T) (a0 : Nat) (x1 : Int32) (x2 : Int32) (s0 : Int32) (s1 : Int32) (s2 : Option Nat) : Option (zw_T) :=
  zf_ix w 138 s2 s1 fun a127 j127 => zf_let (zw_sI w 138 a127 j127 s0) fun w127 =>
  zf_at w127 10 (some a0) fun a129 =>
  zf_at w127 10 (some a0) fun a134 =>
  zf_ix w127 300 (zw_R w127 1604 a134 0) x2 fun a138 j138 =>
  zf_ix w127 300 (zw_R w127 1604 a129 0) x2 fun a147 j147 => zf_let (zw_sL w127 300 a147 j147 ((zw_L w127 300 a138 j138) &&& ((zi_lshl (1 : Int64) x1) ^^^ (-1 : Int64)))) fun w147 =>
  some w147
def zf_Mo_note_j121 (F : Nat) (w : zw_T) (a0 : Nat) (x1 : Int32) (x2 : Int32) (s0 : Int32) (s1 : Option Nat) : Option (zw_T) :=
  zf_at w 10 (some a0) fun a122 =>
  zf_ix w 138 (zw_R w 1605 a122 0) x2 fun a126 j126 =>
  zf_Mo_note_j127 F w a0 x1 x2 (zw_I w 138 a126 j126) s0 s1
def zf_Mo_note_j117 (F : Nat) (w : zw_T) (a0 : Nat) (x1 : Int32) (x2 : Int32) (s0 : Int32) (s1 : Option Nat) : Option (zw_T) :=
  zf_Mo_note_j127 F w a0 x1 x2 x1 s0 s1
def zf_Mo_note_j93 (F : Nat) (w : zw_T) (a0 : Nat) (x1 : Int32) (x2 : Int32) (x3 : Int32) : Option (zw_T) :=
  zf_at w 10 (some a0) fun a94 =>
  zf_at w 10 (some a0) fun a99 =>
  zf_ix w 138 (zw_R w 1605 a99 0) x2 fun a103 j103 =>
  if (zw_I w 138 a103 j103) < 0 then (
  zf_Mo_note_j117 F w a0 x1 x2 x2 (zw_R w 1605 a94 0))
  else (
  if x3 ≤ 0 then (
  zf_Mo_note_j121 F w a0 x1 x2 x2 (zw_R w 1605 a94 0))
  else (
  if (32 : Int32) ≤ x3 then (
  zf_Mo_note_j121 F w a0 x1 x2 x2 (zw_R w 1605 a94 0))
  else (
  zf_Mo_note_j117 F w a0 x1 x2 x2 (zw_R w 1605 a94 0))))
def zf_Mo_note_L54 (F : Nat) : Nat → zw_T → Nat → Int32 → Int32 → Int32 → Int32 → Option (zw_T)
  | 0, _, _, _, _, _, _ => none
  | n + 1, w, a0, x1, x2, x3, x4 =>
  if x3 ≤ x4 then (
  zf_Mo_note_j93 F w a0 x1 x2 x3)
  else (
  zf_at w 10 (some a0) fun a61 =>
  zf_at w 10 (some a0) fun a66 =>
  zf_ix w 300 (zw_R w 1604 a66 0) x2 fun a70 j70 =>
  zf_at w 10 (some a0) fun a73 =>
  zf_ix w 138 (zw_R w 1605 a73 0) x2 fun a77 j77 =>
  zf_ix w 300 (zw_R w 1604 a61 0) x2 fun a86 j86 => zf_let (zw_sL w 300 a86 j86 ((zw_L w 300 a70 j70) ||| (zi_lshl (1 : Int64) (zi_rem ((zw_I w 138 a77 j77) + x4) (64 : Int32))))) fun w86 =>
  zf_let (x4 + (1 : Int32)) fun y87 =>
  zf_Mo_note_L54 F n w86 a0 x1 x2 x3 y87)
def zf_Mo_note_j40 (F : Nat) (w : zw_T) (a0 : Nat) (x1 : Int32) (x2 : Int32) (s0 : Int32) : Option (zw_T) :=
  zf_let s0 fun y40 =>
  if y40 ≤ 0 then (
  zf_Mo_note_j93 F w a0 x1 x2 y40)
  else (
  if (32 : Int32) ≤ y40 then (
  zf_Mo_note_j93 F w a0 x1 x2 y40)
  else (
  zf_let (1 : Int32) fun y52 =>
  zf_Mo_note_L54 F F w a0 x1 x2 y40 y52))
def zf_Mo_note (F : Nat) (w : zw_T) (a0 : Nat) (x1 : Int32) : Option (zw_T) :=
  zf_at w 10 (some a0) fun a3 =>
  zf_at w 10 (some a0) fun a8 =>
  zf_let (((12 : Int32) * (zw_I w 1607 a3 0)) + (zw_I w 1608 a8 0)) fun y12 =>
  zf_at w 10 (some a0) fun a14 =>
  zf_ix w 138 (zw_R w 1605 a14 0) y12 fun a18 j18 =>
  if 0 ≤ (zw_I w 138 a18 j18) then (
  zf_at w 10 (some a0) fun a28 =>
  zf_ix w 138 (zw_R w 1605 a28 0) y12 fun a32 j32 =>
  zf_Mo_note_j40 F w a0 x1 y12 (zi_rem ((x1 - (zw_I w 138 a32 j32)) + (64 : Int32)) (64 : Int32)))
  else (
  zf_Mo_note_j40 F w a0 x1 y12 (0 : Int32))
set_option maxHeartbeats 4000000 in
set_option maxRecDepth 100000 in
theorem zm_Mo_note_j127 {X : zg_X} {D : va_G} {G : zw_G} {A : Nat → Prop} {F : Nat} {r : zw_T} (hX : zg_ok X cMo_note RMo 5 0 0 128 0 D G A) (hr : zg_rt X = none) (hm : zg_nm X = yMo_note.name) (w : zw_T) (a0 : Nat) (x1 : Int32) (x2 : Int32) (s0 : Int32) (s1 : Int32) (s2 : Option Nat) (h : zf_Mo_note_j127 F w a0 x1 x2 s0 s1 s2 = some r) : zg X D G A (zg_Q X D G A 128 0 (zr_v r)) 128 0 w 127 [some (va_rf (some a0)), some (.int x1), some (.int x2), none, none] [.int s0, .int s1, va_rf s2] := by
  unfold zf_Mo_note_j127 at h
  refine zg_iast (kd := 138) (by decide) (by decide) hX dMo_note_127 h (fun w127 h => ?_)
  refine zg_aload_n (x := (some a0)) hX dMo_note_128 rfl ?_
  refine zg_getR (ci := 9) (k := 28) hc_9 (by decide) (by decide) hin_9 zx_648 ft_9_28 hX dMo_note_129 h (fun a129 h => ?_)
  refine zg_iload_n hX dMo_note_132 rfl ?_
  refine zg_aload_n (x := (some a0)) hX dMo_note_133 rfl ?_
  refine zg_getR (ci := 9) (k := 28) hc_9 (by decide) (by decide) hin_9 zx_648 ft_9_28 hX dMo_note_134 h (fun a134 h => ?_)
  refine zg_iload_n hX dMo_note_137 rfl ?_
  refine zg_lald (kd := 300) (by decide) (by decide) hX dMo_note_138 h (fun a138 j138 h => ?_)
  refine zg_lconst hX dMo_note_139 (1 : Int64) (by decide) ?_
  refine zg_iload_n hX dMo_note_140 rfl ?_
  refine zg_lshl hX dMo_note_141 ?_
  refine zg_ldc2 hX dMo_note_142 (-1 : Int64) zx_888 ?_
  refine zg_lxor hX dMo_note_145 ?_
  refine zg_land hX dMo_note_146 ?_
  refine zg_last (kd := 300) (by decide) (by decide) hX dMo_note_147 h (fun w147 h => ?_)
  cases h
  exact zg_vret hX hr (by decide) dMo_note_148
set_option maxHeartbeats 4000000 in
set_option maxRecDepth 100000 in
theorem zm_Mo_note_j121 {X : zg_X} {D : va_G} {G : zw_G} {A : Nat → Prop} {F : Nat} {r : zw_T} (hX : zg_ok X cMo_note RMo 5 0 0 128 0 D G A) (hr : zg_rt X = none) (hm : zg_nm X = yMo_note.name) (w : zw_T) (a0 : Nat) (x1 : Int32) (x2 : Int32) (s0 : Int32) (s1 : Option Nat) (h : zf_Mo_note_j121 F w a0 x1 x2 s0 s1 = some r) : zg X D G A (zg_Q X D G A 128 0 (zr_v r)) 128 0 w 121 [some (va_rf (some a0)), some (.int x1), some (.int x2), none, none] [.int s0, va_rf s1] := by
  unfold zf_Mo_note_j121 at h
  refine zg_aload_n (x := (some a0)) hX dMo_note_121 rfl ?_
  refine zg_getR (ci := 9) (k := 29) hc_9 (by decide) (by decide) hin_9 zx_649 ft_9_29 hX dMo_note_122 h (fun a122 h => ?_)
  refine zg_iload_n hX dMo_note_125 rfl ?_
  refine zg_iald (kd := 138) (by decide) (by decide) hX dMo_note_126 h (fun a126 j126 h => ?_)
  exact zg_sub (zl_k (zl_k (zl_k (zl_d (zl_d zl_n))))) (zm_Mo_note_j127 hX hr hm w a0 x1 x2 (zw_I w 138 a126 j126) s0 s1 h)
set_option maxHeartbeats 4000000 in
set_option maxRecDepth 100000 in
theorem zm_Mo_note_j117 {X : zg_X} {D : va_G} {G : zw_G} {A : Nat → Prop} {F : Nat} {r : zw_T} (hX : zg_ok X cMo_note RMo 5 0 0 128 0 D G A) (hr : zg_rt X = none) (hm : zg_nm X = yMo_note.name) (w : zw_T) (a0 : Nat) (x1 : Int32) (x2 : Int32) (s0 : Int32) (s1 : Option Nat) (h : zf_Mo_note_j117 F w a0 x1 x2 s0 s1 = some r) : zg X D G A (zg_Q X D G A 128 0 (zr_v r)) 128 0 w 117 [some (va_rf (some a0)), some (.int x1), some (.int x2), none, none] [.int s0, va_rf s1] := by
  unfold zf_Mo_note_j117 at h
  refine zg_iload_n hX dMo_note_117 rfl ?_
  refine zg_goto (tgt := 127) hX dMo_note_118 rfl ?_
  exact zg_sub (zl_k (zl_k (zl_k (zl_d (zl_d zl_n))))) (zm_Mo_note_j127 hX hr hm w a0 x1 x2 x1 s0 s1 h)
set_option maxHeartbeats 4000000 in
set_option maxRecDepth 100000 in
theorem zm_Mo_note_j93 {X : zg_X} {D : va_G} {G : zw_G} {A : Nat → Prop} {F : Nat} {r : zw_T} (hX : zg_ok X cMo_note RMo 5 0 0 128 0 D G A) (hr : zg_rt X = none) (hm : zg_nm X = yMo_note.name) (w : zw_T) (a0 : Nat) (x1 : Int32) (x2 : Int32) (x3 : Int32) (h : zf_Mo_note_j93 F w a0 x1 x2 x3 = some r) : zg X D G A (zg_Q X D G A 128 0 (zr_v r)) 128 0 w 93 [some (va_rf (some a0)), some (.int x1), some (.int x2), some (.int x3), none] [] := by
  unfold zf_Mo_note_j93 at h
  refine zg_aload_n (x := (some a0)) hX dMo_note_93 rfl ?_
  refine zg_getR (ci := 9) (k := 29) hc_9 (by decide) (by decide) hin_9 zx_649 ft_9_29 hX dMo_note_94 h (fun a94 h => ?_)
  refine zg_iload_n hX dMo_note_97 rfl ?_
  refine zg_aload_n (x := (some a0)) hX dMo_note_98 rfl ?_
  refine zg_getR (ci := 9) (k := 29) hc_9 (by decide) (by decide) hin_9 zx_649 ft_9_29 hX dMo_note_99 h (fun a99 h => ?_)
  refine zg_iload_n hX dMo_note_102 rfl ?_
  refine zg_iald (kd := 138) (by decide) (by decide) hX dMo_note_103 h (fun a103 j103 h => ?_)
  refine zg_if_lt (tgt := 117) hX dMo_note_104 rfl h (fun h => ?_) (fun h => ?_)
  · exact zg_sub (zl_k (zl_k (zl_k (zl_d (zl_d zl_n))))) (zm_Mo_note_j117 hX hr hm w a0 x1 x2 x2 (zw_R w 1605 a94 0) h)
  · refine zg_iload_n hX dMo_note_107 rfl ?_
    refine zg_if_le (tgt := 121) hX dMo_note_108 rfl h (fun h => ?_) (fun h => ?_)
    · exact zg_sub (zl_k (zl_k (zl_k (zl_d (zl_d zl_n))))) (zm_Mo_note_j121 hX hr hm w a0 x1 x2 x2 (zw_R w 1605 a94 0) h)
    · refine zg_iload_n hX dMo_note_111 rfl ?_
      refine zg_bipush hX dMo_note_112 (32 : Int32) (by decide) ?_
      refine zg_icmp_ge (tgt := 121) hX dMo_note_114 rfl h (fun h => ?_) (fun h => ?_)
      · exact zg_sub (zl_k (zl_k (zl_k (zl_d (zl_d zl_n))))) (zm_Mo_note_j121 hX hr hm w a0 x1 x2 x2 (zw_R w 1605 a94 0) h)
      · exact zg_sub (zl_k (zl_k (zl_k (zl_d (zl_d zl_n))))) (zm_Mo_note_j117 hX hr hm w a0 x1 x2 x2 (zw_R w 1605 a94 0) h)
set_option maxHeartbeats 4000000 in
set_option maxRecDepth 100000 in
theorem zm_Mo_note_L54 {X : zg_X} {D : va_G} {G : zw_G} {A : Nat → Prop} {F : Nat} {r : zw_T} (hX : zg_ok X cMo_note RMo 5 0 0 128 0 D G A) (hr : zg_rt X = none) (hm : zg_nm X = yMo_note.name) : ∀ (n : Nat) (w : zw_T) (a0 : Nat) (x1 : Int32) (x2 : Int32) (x3 : Int32) (x4 : Int32), zf_Mo_note_L54 F n w a0 x1 x2 x3 x4 = some r → zg X D G A (zg_Q X D G A 128 0 (zr_v r)) 128 0 w 54 [some (va_rf (some a0)), some (.int x1), some (.int x2), some (.int x3), some (.int x4)] [] := by
  intro n
  induction n with
  | zero =>
    intro w a0 x1 x2 x3 x4 h
    unfold zf_Mo_note_L54 at h
    cases h
  | succ n ih =>
    intro w a0 x1 x2 x3 x4 h
    rw [zf_Mo_note_L54] at h
    refine zg_iload hX dMo_note_54 rfl ?_
    refine zg_iload_n hX dMo_note_56 rfl ?_
    refine zg_icmp_ge (tgt := 93) hX dMo_note_57 rfl h (fun h => ?_) (fun h => ?_)
    · exact zg_sub (zl_k (zl_k (zl_k (zl_k (zl_d zl_n))))) (zm_Mo_note_j93 hX hr hm w a0 x1 x2 x3 h)
    · refine zg_aload_n (x := (some a0)) hX dMo_note_60 rfl ?_
      refine zg_getR (ci := 9) (k := 28) hc_9 (by decide) (by decide) hin_9 zx_648 ft_9_28 hX dMo_note_61 h (fun a61 h => ?_)
      refine zg_iload_n hX dMo_note_64 rfl ?_
      refine zg_aload_n (x := (some a0)) hX dMo_note_65 rfl ?_
      refine zg_getR (ci := 9) (k := 28) hc_9 (by decide) (by decide) hin_9 zx_648 ft_9_28 hX dMo_note_66 h (fun a66 h => ?_)
      refine zg_iload_n hX dMo_note_69 rfl ?_
      refine zg_lald (kd := 300) (by decide) (by decide) hX dMo_note_70 h (fun a70 j70 h => ?_)
      refine zg_lconst hX dMo_note_71 (1 : Int64) (by decide) ?_
      refine zg_aload_n (x := (some a0)) hX dMo_note_72 rfl ?_
      refine zg_getR (ci := 9) (k := 29) hc_9 (by decide) (by decide) hin_9 zx_649 ft_9_29 hX dMo_note_73 h (fun a73 h => ?_)
      refine zg_iload_n hX dMo_note_76 rfl ?_
      refine zg_iald (kd := 138) (by decide) (by decide) hX dMo_note_77 h (fun a77 j77 h => ?_)
      refine zg_iload hX dMo_note_78 rfl ?_
      refine zg_iadd hX dMo_note_80 ?_
      refine zg_bipush hX dMo_note_81 (64 : Int32) (by decide) ?_
      refine zg_irem hX dMo_note_83 (by decide) ?_
      refine zg_lshl hX dMo_note_84 ?_
      refine zg_lor hX dMo_note_85 ?_
      refine zg_last (kd := 300) (by decide) (by decide) hX dMo_note_86 h (fun w86 h => ?_)
      refine zg_iinc hX dMo_note_87 (1 : Int32) rfl (by decide) (Nat.le_of_ble_eq_true rfl) rfl h (fun y87 h => ?_)
      refine zg_goto (tgt := 54) hX dMo_note_90 rfl ?_
      exact zg_sub (zl_k (zl_k (zl_k (zl_k (zl_k zl_n))))) (ih w86 a0 x1 x2 x3 y87 h)
set_option maxHeartbeats 4000000 in
set_option maxRecDepth 100000 in
theorem zm_Mo_note_j40 {X : zg_X} {D : va_G} {G : zw_G} {A : Nat → Prop} {F : Nat} {r : zw_T} (hX : zg_ok X cMo_note RMo 5 0 0 128 0 D G A) (hr : zg_rt X = none) (hm : zg_nm X = yMo_note.name) (w : zw_T) (a0 : Nat) (x1 : Int32) (x2 : Int32) (s0 : Int32) (h : zf_Mo_note_j40 F w a0 x1 x2 s0 = some r) : zg X D G A (zg_Q X D G A 128 0 (zr_v r)) 128 0 w 40 [some (va_rf (some a0)), some (.int x1), some (.int x2), none, none] [.int s0] := by
  unfold zf_Mo_note_j40 at h
  refine zg_istore_n hX dMo_note_40 (Nat.le_of_ble_eq_true rfl) rfl h (fun y40 h => ?_)
  refine zg_iload_n hX dMo_note_41 rfl ?_
  refine zg_if_le (tgt := 93) hX dMo_note_42 rfl h (fun h => ?_) (fun h => ?_)
  · exact zg_sub (zl_k (zl_k (zl_k (zl_k (zl_d zl_n))))) (zm_Mo_note_j93 hX hr hm w a0 x1 x2 y40 h)
  · refine zg_iload_n hX dMo_note_45 rfl ?_
    refine zg_bipush hX dMo_note_46 (32 : Int32) (by decide) ?_
    refine zg_icmp_ge (tgt := 93) hX dMo_note_48 rfl h (fun h => ?_) (fun h => ?_)
    · exact zg_sub (zl_k (zl_k (zl_k (zl_k (zl_d zl_n))))) (zm_Mo_note_j93 hX hr hm w a0 x1 x2 y40 h)
    · refine zg_iconst hX dMo_note_51 (1 : Int32) (by decide) ?_
      refine zg_istore hX dMo_note_52 (Nat.le_of_ble_eq_true rfl) rfl h (fun y52 h => ?_)
      exact zg_sub (zl_k (zl_k (zl_k (zl_k (zl_k zl_n))))) (zm_Mo_note_L54 hX hr hm F w a0 x1 x2 y40 y52 h)
set_option maxHeartbeats 4000000 in
set_option maxRecDepth 100000 in
theorem zm_Mo_note (l : Launch) (D : va_G) (G : zw_G) (A : Nat → Prop) (F : Nat) (w : zw_T) (a0 : Nat) (x1 : Int32) (r : zw_T) (h : zf_Mo_note F w a0 x1 = some r) : zc l yMo_note wsMo_note 0 0 128 0 D G A [.ref a0, .int x1] w (zr_v r) := by
  refine zc_of (ret := none) [some (va_rf (some a0)), some (.int x1), none, none, none] (plainFor_of_name (by decide +kernel)) rfl (Nat.le_of_ble_eq_true rfl) rfl rfl (fun X hX hr hm => ?_)
  unfold zf_Mo_note at h
  refine zg_bipush hX dMo_note_0 (12 : Int32) (by decide) ?_
  refine zg_aload_n (x := (some a0)) hX dMo_note_2 rfl ?_
  refine zg_getI (ci := 9) (k := 31) hc_9 (by decide) (by decide) hin_9 zx_651 ft_9_31 hX dMo_note_3 h (fun a3 h => ?_)
  refine zg_imul hX dMo_note_6 ?_
  refine zg_aload_n (x := (some a0)) hX dMo_note_7 rfl ?_
  refine zg_getI (ci := 9) (k := 32) hc_9 (by decide) (by decide) hin_9 zx_652 ft_9_32 hX dMo_note_8 h (fun a8 h => ?_)
  refine zg_iadd hX dMo_note_11 ?_
  refine zg_istore_n hX dMo_note_12 (Nat.le_of_ble_eq_true rfl) rfl h (fun y12 h => ?_)
  refine zg_aload_n (x := (some a0)) hX dMo_note_13 rfl ?_
  refine zg_getR (ci := 9) (k := 29) hc_9 (by decide) (by decide) hin_9 zx_649 ft_9_29 hX dMo_note_14 h (fun a14 h => ?_)
  refine zg_iload_n hX dMo_note_17 rfl ?_
  refine zg_iald (kd := 138) (by decide) (by decide) hX dMo_note_18 h (fun a18 j18 h => ?_)
  refine zg_if_ge (tgt := 26) hX dMo_note_19 rfl h (fun h => ?_) (fun h => ?_)
  · refine zg_iload_n hX dMo_note_26 rfl ?_
    refine zg_aload_n (x := (some a0)) hX dMo_note_27 rfl ?_
    refine zg_getR (ci := 9) (k := 29) hc_9 (by decide) (by decide) hin_9 zx_649 ft_9_29 hX dMo_note_28 h (fun a28 h => ?_)
    refine zg_iload_n hX dMo_note_31 rfl ?_
    refine zg_iald (kd := 138) (by decide) (by decide) hX dMo_note_32 h (fun a32 j32 h => ?_)
    refine zg_isub hX dMo_note_33 ?_
    refine zg_bipush hX dMo_note_34 (64 : Int32) (by decide) ?_
    refine zg_iadd hX dMo_note_36 ?_
    refine zg_bipush hX dMo_note_37 (64 : Int32) (by decide) ?_
    refine zg_irem hX dMo_note_39 (by decide) ?_
    exact zg_sub (zl_k (zl_k (zl_k (zl_d (zl_d zl_n))))) (zm_Mo_note_j40 hX hr hm w a0 x1 y12 (zi_rem ((x1 - (zw_I w 138 a32 j32)) + (64 : Int32)) (64 : Int32)) h)
  · refine zg_iconst hX dMo_note_22 (0 : Int32) (by decide) ?_
    refine zg_goto (tgt := 40) hX dMo_note_23 rfl ?_
    exact zg_sub (zl_k (zl_k (zl_k (zl_d (zl_d zl_n))))) (zm_Mo_note_j40 hX hr hm w a0 x1 y12 (0 : Int32) h)
