def zf_Ar_fill_L5 (F : Nat) : Nat → zw_T → (Option Nat) → Int32 → Int32 → Int32 → Option (zw_T)
  | 0, _, _, _, _, _ => none
  | n + 1, w, o0, x1, x2, x3 =>
  if x3 ≤ x2 then (
  some w)
  else (
  zf_ix w 101 o0 x2 fun a13 j13 => zf_let (zw_sI w 101 a13 j13 x1) fun w13 =>
  zf_let (x2 + (1 : Int32)) fun y14 =>
  zf_Ar_fill_L5 F n w13 o0 x1 y14 x3)
def zf_Ar_fill (F : Nat) (w : zw_T) (o0 : Option Nat) (x1 : Int32) : Option (zw_T) :=
  zf_let (0 : Int32) fun y1 =>
  zf_at w 101 o0 fun a3 =>
  zf_let (nI (zw_ty w a3).2) fun y4 =>
  zf_Ar_fill_L5 F F w o0 x1 y1 y4
set_option maxHeartbeats 4000000 in
set_option maxRecDepth 100000 in
theorem zm_Ar_fill_L5 {X : zg_X} {D : va_G} {G : zw_G} {A : Nat → Prop} {F : Nat} {r : zw_T} (hX : zg_ok X cAr_fill "java/util/Arrays" 4 0 0 128 0 D G A) (hr : zg_rt X = none) (hm : zg_nm X = yAr_fill.name) : ∀ (n : Nat) (w : zw_T) (o0 : Option Nat) (x1 : Int32) (x2 : Int32) (x3 : Int32), zf_Ar_fill_L5 F n w o0 x1 x2 x3 = some r → zg X D G A (zg_Q X D G A 128 0 (zr_v r)) 128 0 w 5 [some (va_rf o0), some (.int x1), some (.int x2), some (.int x3)] [] := by
  intro n
  induction n with
  | zero =>
    intro w o0 x1 x2 x3 h
    unfold zf_Ar_fill_L5 at h
    cases h
  | succ n ih =>
    intro w o0 x1 x2 x3 h
    rw [zf_Ar_fill_L5] at h
    refine zg_iload_n hX dAr_fill_5 rfl ?_
    refine zg_iload_n hX dAr_fill_6 rfl ?_
    refine zg_icmp_ge (tgt := 20) hX dAr_fill_7 rfl h (fun h => ?_) (fun h => ?_)
    · cases h
      exact zg_vret hX hr (by decide) dAr_fill_20
    · refine zg_aload_n (x := o0) hX dAr_fill_10 rfl ?_
      refine zg_iload_n hX dAr_fill_11 rfl ?_
      refine zg_iload_n hX dAr_fill_12 rfl ?_
      refine zg_iast (kd := 101) (by decide) (by decide) hX dAr_fill_13 h (fun w13 h => ?_)
      refine zg_iinc hX dAr_fill_14 (1 : Int32) rfl (by decide) (Nat.le_of_ble_eq_true rfl) rfl h (fun y14 h => ?_)
      refine zg_goto (tgt := 5) hX dAr_fill_17 rfl ?_
      exact zg_sub (zl_k (zl_k (zl_k (zl_k zl_n)))) (ih w13 o0 x1 y14 x3 h)
set_option maxHeartbeats 4000000 in
set_option maxRecDepth 100000 in
theorem zm_Ar_fill (l : Launch) (D : va_G) (G : zw_G) (A : Nat → Prop) (F : Nat) (w : zw_T) (o0 : Option Nat) (x1 : Int32) (r : zw_T) (h : zf_Ar_fill F w o0 x1 = some r) : zc l yAr_fill wsAr_fill 0 0 128 0 D G A [va_rf o0, .int x1] w (zr_v r) := by
  refine zc_of (ret := none) [some (va_rf o0), some (.int x1), none, none] (plainFor_of_name (by decide +kernel)) rfl (by cases o0 <;> exact Nat.le_of_ble_eq_true rfl) (by cases o0 <;> rfl) rfl (fun X hX hr hm => ?_)
  unfold zf_Ar_fill at h
  refine zg_iconst hX dAr_fill_0 (0 : Int32) (by decide) ?_
  refine zg_istore_n hX dAr_fill_1 (Nat.le_of_ble_eq_true rfl) rfl h (fun y1 h => ?_)
  refine zg_aload_n (x := o0) hX dAr_fill_2 rfl ?_
  refine zg_leni (kd := 101) (by decide) (by decide) hX dAr_fill_3 h (fun a3 h => ?_)
  refine zg_istore_n hX dAr_fill_4 (Nat.le_of_ble_eq_true rfl) rfl h (fun y4 h => ?_)
  exact zg_sub (zl_k (zl_k (zl_k (zl_k zl_n)))) (zm_Ar_fill_L5 hX hr hm F w o0 x1 y1 y4 h)
def zf_Ly_clear (F : Nat) (w : zw_T) (a0 : Nat) (x1 : Int32) : Option (zw_T) :=
  zf_at w 4 (some a0) fun a1 =>
  zf_bv (zf_Ar_fill F w (zw_R w 1192 a1 0) (2055848343 : Int32)) fun w6 =>
  zf_at w6 4 (some a0) fun a14 => zf_let (zw_sI w6 1193 a14 0 (x1 * (16 : Int32))) fun w14 =>
  some w14
set_option maxHeartbeats 4000000 in
set_option maxRecDepth 100000 in
theorem zm_Ly_clear (l : Launch) (D : va_G) (G : zw_G) (A : Nat → Prop) (F : Nat) (w : zw_T) (a0 : Nat) (x1 : Int32) (r : zw_T) (h : zf_Ly_clear F w a0 x1 = some r) : zc l yLy_clear wsLy_clear 1 23 128 0 D G A [.ref a0, .int x1] w (zr_v r) := by
  refine zc_of (ret := none) [some (va_rf (some a0)), some (.int x1)] (plainFor_of_name (by decide +kernel)) rfl (Nat.le_of_ble_eq_true rfl) rfl rfl (fun X hX hr hm => ?_)
  unfold zf_Ly_clear at h
  refine zg_aload_n (x := (some a0)) hX dLy_clear_0 rfl ?_
  refine zg_getR (ci := 3) (k := 0) hc_3 (by decide) (by decide) hin_3 zx_36 ft_3_0 hX dLy_clear_1 h (fun a1 h => ?_)
  refine zg_ldc hX dLy_clear_4 (2055848343 : Int32) zx_448 ?_
  obtain ⟨w6, q6, h⟩ := zf_bv_e h
  refine zg_callS_v (mcy := 0) (w1 := w6) (st := []) [va_rf (zw_R w 1192 a1 0), .int (2055848343 : Int32)] (fun l => zm_Ar_fill l D G A F w (zw_R w 1192 a1 0) (2055848343 : Int32) w6 q6) (zt_S zx_449 zx_450 zx_13 zx_451) rfl hd_Ar_fill (by decide) (by decide) (by decide) (Nat.le_of_ble_eq_true rfl) rfl rfl hX dLy_clear_6 ?_
  refine zg_aload_n (x := (some a0)) hX dLy_clear_9 rfl ?_
  refine zg_iload_n hX dLy_clear_10 rfl ?_
  refine zg_bipush hX dLy_clear_11 (16 : Int32) (by decide) ?_
  refine zg_imul hX dLy_clear_13 ?_
  refine zg_putI (ci := 3) (k := 1) hc_3 (by decide) (by decide) hin_3 zx_38 ft_3_1 tyLy okLy nmLy rfl (vp_nar_int _) rfl hX dLy_clear_14 h (fun w14 h => ?_)
  cases h
  exact zg_vret hX hr (by decide) dLy_clear_17
def zf_Ly_areFree_L2 (F : Nat) : Nat → zw_T → Nat → Int32 → Int32 → Int32 → Option (Int32 × zw_T)
  | 0, _, _, _, _, _ => none
  | n + 1, w, a0, x1, x2, x3 =>
  if (x1 + x2) ≤ x3 then (
  zf_b (1 : Int32) (some ((1 : Int32), w)))
  else (
  zf_at w 4 (some a0) fun a10 =>
  zf_ix w 101 (zw_R w 1192 a10 0) x3 fun a14 j14 =>
  if (zw_I w 101 a14 j14) = (2055848343 : Int32) then (
  zf_let (x3 + (1 : Int32)) fun y22 =>
  zf_Ly_areFree_L2 F n w a0 x1 x2 y22)
  else (
  zf_b (0 : Int32) (some ((0 : Int32), w))))
def zf_Ly_areFree (F : Nat) (w : zw_T) (a0 : Nat) (x1 : Int32) (x2 : Int32) : Option (Int32 × zw_T) :=
  zf_let x1 fun y1 =>
  zf_Ly_areFree_L2 F F w a0 x1 x2 y1
set_option maxHeartbeats 4000000 in
set_option maxRecDepth 100000 in
theorem zm_Ly_areFree_L2 {X : zg_X} {D : va_G} {G : zw_G} {A : Nat → Prop} {F : Nat} {r : Int32 × zw_T} (hX : zg_ok X cLy_areFree RLy 4 0 0 128 0 D G A) (hr : zg_rt X = some .boolean) (hm : zg_nm X = yLy_areFree.name) : ∀ (n : Nat) (w : zw_T) (a0 : Nat) (x1 : Int32) (x2 : Int32) (x3 : Int32), zf_Ly_areFree_L2 F n w a0 x1 x2 x3 = some r → zg X D G A (zg_Q X D G A 128 0 (zr_i r)) 128 0 w 2 [some (va_rf (some a0)), some (.int x1), some (.int x2), some (.int x3)] [] := by
  intro n
  induction n with
  | zero =>
    intro w a0 x1 x2 x3 h
    unfold zf_Ly_areFree_L2 at h
    cases h
  | succ n ih =>
    intro w a0 x1 x2 x3 h
    rw [zf_Ly_areFree_L2] at h
    refine zg_iload_n hX dLy_areFree_2 rfl ?_
    refine zg_iload_n hX dLy_areFree_3 rfl ?_
    refine zg_iload_n hX dLy_areFree_4 rfl ?_
    refine zg_iadd hX dLy_areFree_5 ?_
    refine zg_icmp_ge (tgt := 28) hX dLy_areFree_6 rfl h (fun h => ?_) (fun h => ?_)
    · refine zg_iconst hX dLy_areFree_28 (1 : Int32) (by decide) ?_
      obtain ⟨hb29, h⟩ := zf_b_e h
      cases h
      exact zg_zret hX hr (zf_b_n hb29).1 (by decide) dLy_areFree_29
    · refine zg_aload_n (x := (some a0)) hX dLy_areFree_9 rfl ?_
      refine zg_getR (ci := 3) (k := 0) hc_3 (by decide) (by decide) hin_3 zx_36 ft_3_0 hX dLy_areFree_10 h (fun a10 h => ?_)
      refine zg_iload_n hX dLy_areFree_13 rfl ?_
      refine zg_iald (kd := 101) (by decide) (by decide) hX dLy_areFree_14 h (fun a14 j14 h => ?_)
      refine zg_ldc hX dLy_areFree_15 (2055848343 : Int32) zx_448 ?_
      refine zg_icmp_eq (tgt := 22) hX dLy_areFree_17 rfl h (fun h => ?_) (fun h => ?_)
      · refine zg_iinc hX dLy_areFree_22 (1 : Int32) rfl (by decide) (Nat.le_of_ble_eq_true rfl) rfl h (fun y22 h => ?_)
        refine zg_goto (tgt := 2) hX dLy_areFree_25 rfl ?_
        exact zg_sub (zl_k (zl_k (zl_k (zl_k zl_n)))) (ih w a0 x1 x2 y22 h)
      · refine zg_iconst hX dLy_areFree_20 (0 : Int32) (by decide) ?_
        obtain ⟨hb21, h⟩ := zf_b_e h
        cases h
        exact zg_zret hX hr (zf_b_n hb21).1 (by decide) dLy_areFree_21
set_option maxHeartbeats 4000000 in
set_option maxRecDepth 100000 in
theorem zm_Ly_areFree (l : Launch) (D : va_G) (G : zw_G) (A : Nat → Prop) (F : Nat) (w : zw_T) (a0 : Nat) (x1 : Int32) (x2 : Int32) (r : Int32 × zw_T) (h : zf_Ly_areFree F w a0 x1 x2 = some r) : zc l yLy_areFree wsLy_areFree 0 0 128 0 D G A [.ref a0, .int x1, .int x2] w (zr_i r) := by
  refine zc_of (ret := some .boolean) [some (va_rf (some a0)), some (.int x1), some (.int x2), none] (plainFor_of_name (by decide +kernel)) rfl (Nat.le_of_ble_eq_true rfl) rfl rfl (fun X hX hr hm => ?_)
  unfold zf_Ly_areFree at h
  refine zg_iload_n hX dLy_areFree_0 rfl ?_
  refine zg_istore_n hX dLy_areFree_1 (Nat.le_of_ble_eq_true rfl) rfl h (fun y1 h => ?_)
  exact zg_sub (zl_k (zl_k (zl_k (zl_k zl_n)))) (zm_Ly_areFree_L2 hX hr hm F w a0 x1 x2 y1 h)
def zf_Ly_findPlace_j39 (F : Nat) (k5 : zw_T → Nat → (Option Nat) → Int32 → Int32 → Option (Int32 × zw_T)) (w : zw_T) (a0 : Nat) (o1 : Option Nat) (x2 : Int32) (x3 : Int32) : Option (Int32 × zw_T) :=
  zf_let (x3 + (1 : Int32)) fun y39 =>
  k5 w a0 o1 x2 y39
def zf_Ly_findPlace_L5 (F : Nat) : Nat → zw_T → Nat → (Option Nat) → Int32 → Int32 → Option (Int32 × zw_T)
  | 0, _, _, _, _, _ => none
  | n + 1, w, a0, o1, x2, x3 =>
  zf_at w 4 (some a0) fun a9 =>
  if (zw_I w 1193 a9 0) < (x3 + x2) then (
  some ((-1 : Int32), w))
  else (
  zf_at w 3 o1 fun a22 =>
  if ((zi_rem x3 (16 : Int32)) / (2 : Int32)) = (zw_I w 1131 a22 0) then (
  zf_at w 4 (some a0) fun a31 =>
  zf_bd (zf_Ly_areFree F w a31 x3 x2) fun v31 w31 =>
  if v31 = 0 then (
  zf_Ly_findPlace_j39 F (zf_Ly_findPlace_L5 F n) w31 a0 o1 x2 x3)
  else (
  some (x3, w31)))
  else (
  zf_Ly_findPlace_j39 F (zf_Ly_findPlace_L5 F n) w a0 o1 x2 x3))
def zf_Ly_findPlace (F : Nat) (w : zw_T) (a0 : Nat) (o1 : Option Nat) (x2 : Int32) : Option (Int32 × zw_T) :=
  zf_at w 3 o1 fun a1 =>
  zf_let (zw_I w 1138 a1 0) fun y4 =>
  zf_Ly_findPlace_L5 F F w a0 o1 x2 y4
set_option maxHeartbeats 4000000 in
set_option maxRecDepth 100000 in
theorem zm_Ly_findPlace_j39 {X : zg_X} {D : va_G} {G : zw_G} {A : Nat → Prop} {F : Nat} {k5 : zw_T → Nat → (Option Nat) → Int32 → Int32 → Option (Int32 × zw_T)} {r : Int32 × zw_T} (hX : zg_ok X cLy_findPlace RLy 4 1 23 128 0 D G A) (hr : zg_rt X = some .int) (hm : zg_nm X = yLy_findPlace.name) (hk5 : ∀ (w : zw_T) (a0 : Nat) (o1 : Option Nat) (x2 : Int32) (x3 : Int32), k5 w a0 o1 x2 x3 = some r → zg X D G A (zg_Q X D G A 128 0 (zr_i r)) 128 0 w 5 [some (va_rf (some a0)), some (va_rf o1), some (.int x2), some (.int x3)] []) (w : zw_T) (a0 : Nat) (o1 : Option Nat) (x2 : Int32) (x3 : Int32) (h : zf_Ly_findPlace_j39 F k5 w a0 o1 x2 x3 = some r) : zg X D G A (zg_Q X D G A 128 0 (zr_i r)) 128 0 w 39 [some (va_rf (some a0)), some (va_rf o1), some (.int x2), some (.int x3)] [] := by
  unfold zf_Ly_findPlace_j39 at h
  refine zg_iinc hX dLy_findPlace_39 (1 : Int32) rfl (by decide) (Nat.le_of_ble_eq_true rfl) rfl h (fun y39 h => ?_)
  refine zg_goto (tgt := 5) hX dLy_findPlace_42 rfl ?_
  exact zg_sub (zl_k (zl_k (zl_k (zl_k zl_n)))) (hk5 w a0 o1 x2 y39 h)
set_option maxHeartbeats 4000000 in
set_option maxRecDepth 100000 in
theorem zm_Ly_findPlace_L5 {X : zg_X} {D : va_G} {G : zw_G} {A : Nat → Prop} {F : Nat} {r : Int32 × zw_T} (hX : zg_ok X cLy_findPlace RLy 4 1 23 128 0 D G A) (hr : zg_rt X = some .int) (hm : zg_nm X = yLy_findPlace.name) : ∀ (n : Nat) (w : zw_T) (a0 : Nat) (o1 : Option Nat) (x2 : Int32) (x3 : Int32), zf_Ly_findPlace_L5 F n w a0 o1 x2 x3 = some r → zg X D G A (zg_Q X D G A 128 0 (zr_i r)) 128 0 w 5 [some (va_rf (some a0)), some (va_rf o1), some (.int x2), some (.int x3)] [] := by
  intro n
  induction n with
  | zero =>
    intro w a0 o1 x2 x3 h
    unfold zf_Ly_findPlace_L5 at h
    cases h
  | succ n ih =>
    intro w a0 o1 x2 x3 h
    rw [zf_Ly_findPlace_L5] at h
    refine zg_iload_n hX dLy_findPlace_5 rfl ?_
    refine zg_iload_n hX dLy_findPlace_6 rfl ?_
    refine zg_iadd hX dLy_findPlace_7 ?_
    refine zg_aload_n (x := (some a0)) hX dLy_findPlace_8 rfl ?_
    refine zg_getI (ci := 3) (k := 1) hc_3 (by decide) (by decide) hin_3 zx_38 ft_3_1 hX dLy_findPlace_9 h (fun a9 h => ?_)
    refine zg_icmp_gt (tgt := 45) hX dLy_findPlace_12 rfl h (fun h => ?_) (fun h => ?_)
    · refine zg_iconst hX dLy_findPlace_45 (-1 : Int32) (by decide) ?_
      cases h
      exact zg_iret hX hr (by decide) dLy_findPlace_46
    · refine zg_iload_n hX dLy_findPlace_15 rfl ?_
      refine zg_bipush hX dLy_findPlace_16 (16 : Int32) (by decide) ?_
      refine zg_irem hX dLy_findPlace_18 (by decide) ?_
      refine zg_iconst hX dLy_findPlace_19 (2 : Int32) (by decide) ?_
      refine zg_idiv hX dLy_findPlace_20 (by decide) ?_
      refine zg_aload_n (x := o1) hX dLy_findPlace_21 rfl ?_
      refine zg_getI (ci := 2) (k := 3) hc_2 (by decide) (by decide) hin_2 zx_188 ft_2_3 hX dLy_findPlace_22 h (fun a22 h => ?_)
      refine zg_icmp_ne (tgt := 39) hX dLy_findPlace_25 rfl h (fun h => ?_) (fun h => ?_)
      · refine zg_aload_n (x := (some a0)) hX dLy_findPlace_28 rfl ?_
        refine zg_iload_n hX dLy_findPlace_29 rfl ?_
        refine zg_iload_n hX dLy_findPlace_30 rfl ?_
        obtain ⟨a31, e31, t31, h⟩ := zf_at_e h
        obtain ⟨v31, w31, q31, h⟩ := zf_bd_e h
        refine zg_callV_i (mcy := 0) (v := v31) (w1 := w31) (st := []) hc_3 (by decide) e31 t31 [.int x3, .int x2] (fun l => zm_Ly_areFree l D G A F w a31 x3 x2 (v31, w31) q31) (zt_V zx_460 zx_462 zs_6 zx_2 zx_463) rfl hd_Ly_areFree (by decide) (by decide) (by decide) (Nat.le_of_ble_eq_true rfl) rfl rfl hX dLy_findPlace_31 ?_
        refine zg_if_eq (tgt := 39) hX dLy_findPlace_34 rfl h (fun h => ?_) (fun h => ?_)
        · exact zg_sub (zl_k (zl_k (zl_k (zl_k zl_n)))) (zm_Ly_findPlace_j39 hX hr hm ih w31 a0 o1 x2 x3 h)
        · refine zg_iload_n hX dLy_findPlace_37 rfl ?_
          cases h
          exact zg_iret hX hr (by decide) dLy_findPlace_38
      · exact zg_sub (zl_k (zl_k (zl_k (zl_k zl_n)))) (zm_Ly_findPlace_j39 hX hr hm ih w a0 o1 x2 x3 h)
set_option maxHeartbeats 4000000 in
set_option maxRecDepth 100000 in
theorem zm_Ly_findPlace (l : Launch) (D : va_G) (G : zw_G) (A : Nat → Prop) (F : Nat) (w : zw_T) (a0 : Nat) (o1 : Option Nat) (x2 : Int32) (r : Int32 × zw_T) (h : zf_Ly_findPlace F w a0 o1 x2 = some r) : zc l yLy_findPlace wsLy_findPlace 1 23 128 0 D G A [.ref a0, va_rf o1, .int x2] w (zr_i r) := by
  refine zc_of (ret := some .int) [some (va_rf (some a0)), some (va_rf o1), some (.int x2), none] (plainFor_of_name (by decide +kernel)) rfl (by cases o1 <;> exact Nat.le_of_ble_eq_true rfl) (by cases o1 <;> rfl) rfl (fun X hX hr hm => ?_)
  unfold zf_Ly_findPlace at h
  refine zg_aload_n (x := o1) hX dLy_findPlace_0 rfl ?_
  refine zg_getI (ci := 2) (k := 10) hc_2 (by decide) (by decide) hin_2 zx_205 ft_2_10 hX dLy_findPlace_1 h (fun a1 h => ?_)
  refine zg_istore_n hX dLy_findPlace_4 (Nat.le_of_ble_eq_true rfl) rfl h (fun y4 h => ?_)
  exact zg_sub (zl_k (zl_k (zl_k (zl_k zl_n)))) (zm_Ly_findPlace_L5 hX hr hm F w a0 o1 x2 y4 h)
def zf_Ly_lay_j29 (F : Nat) (w : zw_T) (a0 : Nat) (o1 : Option Nat) (o2 : Option Nat) (x3 : Int32) (s0 : Int32) : Option (Int32 × zw_T) :=
  zf_let s0 fun y29 =>
  if y29 = (-1 : Int32) then (
  zf_at w 3 o2 fun a39 => zf_let (zw_sI w 1138 a39 0 (-1 : Int32)) fun w39 =>
  zf_b (0 : Int32) (some ((0 : Int32), w39)))
  else (
  zf_at w 6 o1 fun a45 =>
  zf_at w 4 (some a0) fun a50 =>
  zf_cp w 106 101 (zw_R w 1324 a45 0) (0 : Int32) (zw_R w 1192 a50 0) y29 x3 fun w56 =>
  zf_at w56 3 o2 fun a64 => zf_let (zw_sI w56 1138 a64 0 (y29 + x3)) fun w64 =>
  zf_b (1 : Int32) (some ((1 : Int32), w64)))
def zf_Ly_lay (F : Nat) (w : zw_T) (a0 : Nat) (o1 : Option Nat) : Option (Int32 × zw_T) :=
  zf_at w 6 o1 fun a1 =>
  zf_let (zw_R w 1320 a1 0) fun y4 =>
  zf_at w 6 o1 fun a6 =>
  zf_at w 106 (zw_R w 1324 a6 0) fun a9 =>
  zf_let (nI (zw_ty w a9).2) fun y10 =>
  zf_at w 3 y4 fun a12 =>
  if (zw_I w 1138 a12 0) = (-1 : Int32) then (
  zf_Ly_lay_j29 F w a0 o1 y4 y10 (-1 : Int32))
  else (
  zf_at w 4 (some a0) fun a26 =>
  zf_bd (zf_Ly_findPlace F w a26 y4 y10) fun v26 w26 =>
  zf_Ly_lay_j29 F w26 a0 o1 y4 y10 v26)
set_option maxHeartbeats 4000000 in
set_option maxRecDepth 100000 in
theorem zm_Ly_lay_j29 {X : zg_X} {D : va_G} {G : zw_G} {A : Nat → Prop} {F : Nat} {r : Int32 × zw_T} (hX : zg_ok X cLy_lay RLy 5 2 46 128 0 D G A) (hr : zg_rt X = some .boolean) (hm : zg_nm X = yLy_lay.name) (w : zw_T) (a0 : Nat) (o1 : Option Nat) (o2 : Option Nat) (x3 : Int32) (s0 : Int32) (h : zf_Ly_lay_j29 F w a0 o1 o2 x3 s0 = some r) : zg X D G A (zg_Q X D G A 128 0 (zr_i r)) 128 0 w 29 [some (va_rf (some a0)), some (va_rf o1), some (va_rf o2), some (.int x3), none] [.int s0] := by
  unfold zf_Ly_lay_j29 at h
  refine zg_istore hX dLy_lay_29 (Nat.le_of_ble_eq_true rfl) rfl h (fun y29 h => ?_)
  refine zg_iload hX dLy_lay_31 rfl ?_
  refine zg_iconst hX dLy_lay_33 (-1 : Int32) (by decide) ?_
  refine zg_icmp_ne (tgt := 44) hX dLy_lay_34 rfl h (fun h => ?_) (fun h => ?_)
  · refine zg_aload_n (x := o2) hX dLy_lay_37 rfl ?_
    refine zg_iconst hX dLy_lay_38 (-1 : Int32) (by decide) ?_
    refine zg_putI (ci := 2) (k := 10) hc_2 (by decide) (by decide) hin_2 zx_205 ft_2_10 tyId okId nmId rfl (vp_nar_int _) rfl hX dLy_lay_39 h (fun w39 h => ?_)
    refine zg_iconst hX dLy_lay_42 (0 : Int32) (by decide) ?_
    obtain ⟨hb43, h⟩ := zf_b_e h
    cases h
    exact zg_zret hX hr (zf_b_n hb43).1 (by decide) dLy_lay_43
  · refine zg_aload_n (x := o1) hX dLy_lay_44 rfl ?_
    refine zg_getR (ci := 5) (k := 4) hc_5 (by decide) (by decide) hin_5 zx_416 ft_5_4 hX dLy_lay_45 h (fun a45 h => ?_)
    refine zg_iconst hX dLy_lay_48 (0 : Int32) (by decide) ?_
    refine zg_aload_n (x := (some a0)) hX dLy_lay_49 rfl ?_
    refine zg_getR (ci := 3) (k := 0) hc_3 (by decide) (by decide) hin_3 zx_36 ft_3_0 hX dLy_lay_50 h (fun a50 h => ?_)
    refine zg_iload hX dLy_lay_53 rfl ?_
    refine zg_iload_n hX dLy_lay_55 rfl ?_
    refine zg_copy (k0 := 106) (k1 := 101) (by decide) (by decide) (by decide) (by decide) zx_464 zx_385 zx_384 zx_15 (by decide) (by decide) rfl hX dLy_lay_56 h (fun w56 h => ?_)
    refine zg_aload_n (x := o2) hX dLy_lay_59 rfl ?_
    refine zg_iload hX dLy_lay_60 rfl ?_
    refine zg_iload_n hX dLy_lay_62 rfl ?_
    refine zg_iadd hX dLy_lay_63 ?_
    refine zg_putI (ci := 2) (k := 10) hc_2 (by decide) (by decide) hin_2 zx_205 ft_2_10 tyId okId nmId rfl (vp_nar_int _) rfl hX dLy_lay_64 h (fun w64 h => ?_)
    refine zg_iconst hX dLy_lay_67 (1 : Int32) (by decide) ?_
    obtain ⟨hb68, h⟩ := zf_b_e h
    cases h
    exact zg_zret hX hr (zf_b_n hb68).1 (by decide) dLy_lay_68
set_option maxHeartbeats 4000000 in
set_option maxRecDepth 100000 in
theorem zm_Ly_lay (l : Launch) (D : va_G) (G : zw_G) (A : Nat → Prop) (F : Nat) (w : zw_T) (a0 : Nat) (o1 : Option Nat) (r : Int32 × zw_T) (h : zf_Ly_lay F w a0 o1 = some r) : zc l yLy_lay wsLy_lay 2 46 128 0 D G A [.ref a0, va_rf o1] w (zr_i r) := by
  refine zc_of (ret := some .boolean) [some (va_rf (some a0)), some (va_rf o1), none, none, none] (plainFor_of_name (by decide +kernel)) rfl (by cases o1 <;> exact Nat.le_of_ble_eq_true rfl) rfl rfl (fun X hX hr hm => ?_)
  unfold zf_Ly_lay at h
  refine zg_aload_n (x := o1) hX dLy_lay_0 rfl ?_
  refine zg_getR (ci := 5) (k := 0) hc_5 (by decide) (by decide) hin_5 zx_407 ft_5_0 hX dLy_lay_1 h (fun a1 h => ?_)
  refine zg_astore_n hX dLy_lay_4 (Nat.le_of_ble_eq_true rfl) (zl_fq 1 rfl) h (fun y4 h => ?_)
  refine zg_aload_n (x := o1) hX dLy_lay_5 rfl ?_
  refine zg_getR (ci := 5) (k := 4) hc_5 (by decide) (by decide) hin_5 zx_416 ft_5_4 hX dLy_lay_6 h (fun a6 h => ?_)
  refine zg_leni (kd := 106) (by decide) (by decide) hX dLy_lay_9 h (fun a9 h => ?_)
  refine zg_istore_n hX dLy_lay_10 (Nat.le_of_ble_eq_true rfl) (zl_fq 2 rfl) h (fun y10 h => ?_)
  refine zg_aload_n (x := y4) hX dLy_lay_11 rfl ?_
  refine zg_getI (ci := 2) (k := 10) hc_2 (by decide) (by decide) hin_2 zx_205 ft_2_10 hX dLy_lay_12 h (fun a12 h => ?_)
  refine zg_iconst hX dLy_lay_15 (-1 : Int32) (by decide) ?_
  refine zg_icmp_ne (tgt := 23) hX dLy_lay_16 rfl h (fun h => ?_) (fun h => ?_)
  · refine zg_iconst hX dLy_lay_19 (-1 : Int32) (by decide) ?_
    refine zg_goto (tgt := 29) hX dLy_lay_20 rfl ?_
    exact zg_sub (zl_k (zl_k (zl_k (zl_k (zl_d zl_n))))) (zm_Ly_lay_j29 hX hr hm w a0 o1 y4 y10 (-1 : Int32) h)
  · refine zg_aload_n (x := (some a0)) hX dLy_lay_23 rfl ?_
    refine zg_aload_n (x := y4) hX dLy_lay_24 rfl ?_
    refine zg_iload_n hX dLy_lay_25 rfl ?_
    obtain ⟨a26, e26, t26, h⟩ := zf_at_e h
    obtain ⟨v26, w26, q26, h⟩ := zf_bd_e h
    refine zg_callV_i (mcy := 0) (v := v26) (w1 := w26) (st := []) hc_3 (by decide) e26 t26 [va_rf y4, .int y10] (fun l => zm_Ly_findPlace l D G A F w a26 y4 y10 (v26, w26) q26) (zt_V zx_456 zx_458 zs_5 zx_2 zx_459) rfl hd_Ly_findPlace (by decide) (by decide) (by decide) (Nat.le_of_ble_eq_true rfl) rfl rfl hX dLy_lay_26 ?_
    exact zg_sub (zl_k (zl_k (zl_k (zl_k (zl_d zl_n))))) (zm_Ly_lay_j29 hX hr hm w26 a0 o1 y4 y10 v26 h)
def zf_WP_layMessages_j103 (F : Nat) (k36 : zw_T → Nat → Int32 → Option (zw_T)) (k42 : zw_T → Nat → Int32 → Int32 → Option (zw_T)) (w : zw_T) (a0 : Nat) (x2 : Int32) (x3 : Int32) : Option (zw_T) :=
  zf_let (x3 + (1 : Int32)) fun y103 =>
  k42 w a0 x2 y103
def zf_WP_layMessages_L42 (F : Nat) (k36 : zw_T → Nat → Int32 → Option (zw_T)) : Nat → zw_T → Nat → Int32 → Int32 → Option (zw_T)
  | 0, _, _, _, _ => none
  | n + 1, w, a0, x2, x3 =>
  zf_at w 9 (some a0) fun a44 =>
  if (zw_I w 1517 a44 0) ≤ x3 then (
  zf_let (x2 + (-1 : Int32)) fun y109 =>
  k36 w a0 y109)
  else (
  zf_at w 9 (some a0) fun a51 =>
  zf_ix w 405 (zw_R w 1516 a51 0) x3 fun a55 j55 =>
  zf_let (zw_R w 405 a55 j55) fun y56 =>
  zf_at w 6 y56 fun a60 =>
  if (zw_I w 1325 a60 0) = 0 then (
  zf_WP_layMessages_j103 F k36 (zf_WP_layMessages_L42 F k36 n) w a0 x2 x3)
  else (
  zf_at w 6 y56 fun a68 =>
  if (zw_I w 1321 a68 0) = x2 then (
  zf_at w 9 (some a0) fun a76 =>
  zf_at w 4 (zw_R w 1521 a76 0) fun a81 =>
  zf_bd (zf_Ly_lay F w a81 y56) fun v81 w81 =>
  if v81 = 0 then (
  zf_WP_layMessages_j103 F k36 (zf_WP_layMessages_L42 F k36 n) w81 a0 x2 x3)
  else (
  zf_b (0 : Int32) (
  zf_at w81 6 y56 fun a90 => zf_let (zw_sI w81 1325 a90 0 (0 : Int32)) fun w90 =>
  zf_at w90 9 (some a0) fun a95 =>
  zf_at w90 9 (some a0) fun a100 => zf_let (zw_sI w90 1518 a100 0 ((zw_I w90 1518 a95 0) - (1 : Int32))) fun w100 =>
  zf_WP_layMessages_j103 F k36 (zf_WP_layMessages_L42 F k36 n) w100 a0 x2 x3)))
  else (
  zf_WP_layMessages_j103 F k36 (zf_WP_layMessages_L42 F k36 n) w a0 x2 x3)))
def zf_WP_layMessages_L36 (F : Nat) : Nat → zw_T → Nat → Int32 → Option (zw_T)
  | 0, _, _, _ => none
  | n + 1, w, a0, x2 =>
  if x2 < 0 then (
  some w)
  else (
  zf_let (0 : Int32) fun y41 =>
  zf_WP_layMessages_L42 F (zf_WP_layMessages_L36 F n) F w a0 x2 y41)
def zf_WP_layMessages_L10 (F : Nat) : Nat → zw_T → Nat → Int32 → Option (zw_T)
  | 0, _, _, _ => none
  | n + 1, w, a0, x2 =>
  zf_at w 9 (some a0) fun a12 =>
  if (zw_I w 1513 a12 0) ≤ x2 then (
  zf_let (3 : Int32) fun y35 =>
  zf_WP_layMessages_L36 F F w a0 y35)
  else (
  zf_at w 9 (some a0) fun a19 =>
  zf_ix w 402 (zw_R w 1512 a19 0) x2 fun a23 j23 =>
  zf_at w 3 (zw_R w 402 a23 j23) fun a25 => zf_let (zw_sI w 1138 a25 0 (0 : Int32)) fun w25 =>
  zf_let (x2 + (1 : Int32)) fun y28 =>
  zf_WP_layMessages_L10 F n w25 a0 y28)
def zf_WP_layMessages (F : Nat) (w : zw_T) (a0 : Nat) (x1 : Int32) : Option (zw_T) :=
  zf_at w 9 (some a0) fun a1 =>
  zf_at w 4 (zw_R w 1521 a1 0) fun a5 =>
  zf_bv (zf_Ly_clear F w a5 x1) fun w5 =>
  zf_let (0 : Int32) fun y9 =>
  zf_WP_layMessages_L10 F F w5 a0 y9
set_option maxHeartbeats 4000000 in
set_option maxRecDepth 100000 in
theorem zm_WP_layMessages_j103 {X : zg_X} {D : va_G} {G : zw_G} {A : Nat → Prop} {F : Nat} {k36 : zw_T → Nat → Int32 → Option (zw_T)} {k42 : zw_T → Nat → Int32 → Int32 → Option (zw_T)} {r : zw_T} (hX : zg_ok X cWP_layMessages RWP 5 3 70 128 0 D G A) (hr : zg_rt X = none) (hm : zg_nm X = yWP_layMessages.name) (hk36 : ∀ (w : zw_T) (a0 : Nat) (x2 : Int32), k36 w a0 x2 = some r → zg X D G A (zg_Q X D G A 128 0 (zr_v r)) 128 0 w 36 [some (va_rf (some a0)), none, some (.int x2), none, none] []) (hk42 : ∀ (w : zw_T) (a0 : Nat) (x2 : Int32) (x3 : Int32), k42 w a0 x2 x3 = some r → zg X D G A (zg_Q X D G A 128 0 (zr_v r)) 128 0 w 42 [some (va_rf (some a0)), none, some (.int x2), some (.int x3), none] []) (w : zw_T) (a0 : Nat) (x2 : Int32) (x3 : Int32) (h : zf_WP_layMessages_j103 F k36 k42 w a0 x2 x3 = some r) : zg X D G A (zg_Q X D G A 128 0 (zr_v r)) 128 0 w 103 [some (va_rf (some a0)), none, some (.int x2), some (.int x3), none] [] := by
  unfold zf_WP_layMessages_j103 at h
  refine zg_iinc hX dWP_layMessages_103 (1 : Int32) rfl (by decide) (Nat.le_of_ble_eq_true rfl) rfl h (fun y103 h => ?_)
  refine zg_goto (tgt := 42) hX dWP_layMessages_106 rfl ?_
  exact zg_sub (zl_k (zl_d (zl_k (zl_k (zl_d zl_n))))) (hk42 w a0 x2 y103 h)
set_option maxHeartbeats 4000000 in
set_option maxRecDepth 100000 in
theorem zm_WP_layMessages_L42 {X : zg_X} {D : va_G} {G : zw_G} {A : Nat → Prop} {F : Nat} {k36 : zw_T → Nat → Int32 → Option (zw_T)} {r : zw_T} (hX : zg_ok X cWP_layMessages RWP 5 3 70 128 0 D G A) (hr : zg_rt X = none) (hm : zg_nm X = yWP_layMessages.name) (hk36 : ∀ (w : zw_T) (a0 : Nat) (x2 : Int32), k36 w a0 x2 = some r → zg X D G A (zg_Q X D G A 128 0 (zr_v r)) 128 0 w 36 [some (va_rf (some a0)), none, some (.int x2), none, none] []) : ∀ (n : Nat) (w : zw_T) (a0 : Nat) (x2 : Int32) (x3 : Int32), zf_WP_layMessages_L42 F k36 n w a0 x2 x3 = some r → zg X D G A (zg_Q X D G A 128 0 (zr_v r)) 128 0 w 42 [some (va_rf (some a0)), none, some (.int x2), some (.int x3), none] [] := by
  intro n
  induction n with
  | zero =>
    intro w a0 x2 x3 h
    unfold zf_WP_layMessages_L42 at h
    cases h
  | succ n ih =>
    intro w a0 x2 x3 h
    rw [zf_WP_layMessages_L42] at h
    refine zg_iload_n hX dWP_layMessages_42 rfl ?_
    refine zg_aload_n (x := (some a0)) hX dWP_layMessages_43 rfl ?_
    refine zg_getI (ci := 8) (k := 5) hc_8 (by decide) (by decide) hin_8 zx_96 ft_8_5 hX dWP_layMessages_44 h (fun a44 h => ?_)
    refine zg_icmp_ge (tgt := 109) hX dWP_layMessages_47 rfl h (fun h => ?_) (fun h => ?_)
    · refine zg_iinc hX dWP_layMessages_109 (-1 : Int32) rfl (by decide) (Nat.le_of_ble_eq_true rfl) rfl h (fun y109 h => ?_)
      refine zg_goto (tgt := 36) hX dWP_layMessages_112 rfl ?_
      exact zg_sub (zl_k (zl_d (zl_k (zl_d (zl_d zl_n))))) (hk36 w a0 y109 h)
    · refine zg_aload_n (x := (some a0)) hX dWP_layMessages_50 rfl ?_
      refine zg_getR (ci := 8) (k := 4) hc_8 (by decide) (by decide) hin_8 zx_95 ft_8_4 hX dWP_layMessages_51 h (fun a51 h => ?_)
      refine zg_iload_n hX dWP_layMessages_54 rfl ?_
      refine zg_aald (ci := 5) (t0 := 5) rfl hX dWP_layMessages_55 h (fun a55 j55 h => ?_)
      refine zg_astore hX dWP_layMessages_56 (Nat.le_of_ble_eq_true rfl) rfl h (fun y56 h => ?_)
      refine zg_aload (x := y56) hX dWP_layMessages_58 rfl ?_
      refine zg_getI (ci := 5) (k := 5) hc_5 (by decide) (by decide) hin_5 zx_418 ft_5_5 hX dWP_layMessages_60 h (fun a60 h => ?_)
      refine zg_if_eq (tgt := 103) hX dWP_layMessages_63 rfl h (fun h => ?_) (fun h => ?_)
      · exact zg_sub (zl_k (zl_d (zl_k (zl_k (zl_d zl_n))))) (zm_WP_layMessages_j103 hX hr hm hk36 ih w a0 x2 x3 h)
      · refine zg_aload (x := y56) hX dWP_layMessages_66 rfl ?_
        refine zg_getI (ci := 5) (k := 1) hc_5 (by decide) (by decide) hin_5 zx_410 ft_5_1 hX dWP_layMessages_68 h (fun a68 h => ?_)
        refine zg_iload_n hX dWP_layMessages_71 rfl ?_
        refine zg_icmp_ne (tgt := 103) hX dWP_layMessages_72 rfl h (fun h => ?_) (fun h => ?_)
        · refine zg_aload_n (x := (some a0)) hX dWP_layMessages_75 rfl ?_
          refine zg_getR (ci := 8) (k := 9) hc_8 (by decide) (by decide) hin_8 zx_100 ft_8_9 hX dWP_layMessages_76 h (fun a76 h => ?_)
          refine zg_aload (x := y56) hX dWP_layMessages_79 rfl ?_
          obtain ⟨a81, e81, t81, h⟩ := zf_at_e h
          obtain ⟨v81, w81, q81, h⟩ := zf_bd_e h
          refine zg_callV_i (mcy := 0) (v := v81) (w1 := w81) (st := []) hc_3 (by decide) e81 t81 [va_rf y56] (fun l => zm_Ly_lay l D G A F w a81 y56 (v81, w81) q81) (zt_V zx_452 zx_453 zx_454 zx_2 zx_455) rfl hd_Ly_lay (by decide) (by decide) (by decide) (Nat.le_of_ble_eq_true rfl) rfl rfl hX dWP_layMessages_81 ?_
          refine zg_if_eq (tgt := 103) hX dWP_layMessages_84 rfl h (fun h => ?_) (fun h => ?_)
          · exact zg_sub (zl_k (zl_d (zl_k (zl_k (zl_d zl_n))))) (zm_WP_layMessages_j103 hX hr hm hk36 ih w81 a0 x2 x3 h)
          · refine zg_aload (x := y56) hX dWP_layMessages_87 rfl ?_
            refine zg_iconst hX dWP_layMessages_89 (0 : Int32) (by decide) ?_
            obtain ⟨hb90, h⟩ := zf_b_e h
            refine zg_putI (ci := 5) (k := 5) hc_5 (by decide) (by decide) hin_5 zx_418 ft_5_5 tyMs okMs nmMs rfl (zf_b_n hb90).1 (zf_b_n hb90).2 hX dWP_layMessages_90 h (fun w90 h => ?_)
            refine zg_aload_n (x := (some a0)) hX dWP_layMessages_93 rfl ?_
            refine zg_dup hX dWP_layMessages_94 rfl ?_
            refine zg_getI (ci := 8) (k := 6) hc_8 (by decide) (by decide) hin_8 zx_97 ft_8_6 hX dWP_layMessages_95 h (fun a95 h => ?_)
            refine zg_iconst hX dWP_layMessages_98 (1 : Int32) (by decide) ?_
            refine zg_isub hX dWP_layMessages_99 ?_
            refine zg_putI (ci := 8) (k := 6) hc_8 (by decide) (by decide) hin_8 zx_97 ft_8_6 tyWP okWP nmWP rfl (vp_nar_int _) rfl hX dWP_layMessages_100 h (fun w100 h => ?_)
            exact zg_sub (zl_k (zl_d (zl_k (zl_k (zl_d zl_n))))) (zm_WP_layMessages_j103 hX hr hm hk36 ih w100 a0 x2 x3 h)
        · exact zg_sub (zl_k (zl_d (zl_k (zl_k (zl_d zl_n))))) (zm_WP_layMessages_j103 hX hr hm hk36 ih w a0 x2 x3 h)
set_option maxHeartbeats 4000000 in
set_option maxRecDepth 100000 in
theorem zm_WP_layMessages_L36 {X : zg_X} {D : va_G} {G : zw_G} {A : Nat → Prop} {F : Nat} {r : zw_T} (hX : zg_ok X cWP_layMessages RWP 5 3 70 128 0 D G A) (hr : zg_rt X = none) (hm : zg_nm X = yWP_layMessages.name) : ∀ (n : Nat) (w : zw_T) (a0 : Nat) (x2 : Int32), zf_WP_layMessages_L36 F n w a0 x2 = some r → zg X D G A (zg_Q X D G A 128 0 (zr_v r)) 128 0 w 36 [some (va_rf (some a0)), none, some (.int x2), none, none] [] := by
  intro n
  induction n with
  | zero =>
    intro w a0 x2 h
    unfold zf_WP_layMessages_L36 at h
    cases h
  | succ n ih =>
    intro w a0 x2 h
    rw [zf_WP_layMessages_L36] at h
    refine zg_iload_n hX dWP_layMessages_36 rfl ?_
    refine zg_if_lt (tgt := 115) hX dWP_layMessages_37 rfl h (fun h => ?_) (fun h => ?_)
    · cases h
      exact zg_vret hX hr (by decide) dWP_layMessages_115
    · refine zg_iconst hX dWP_layMessages_40 (0 : Int32) (by decide) ?_
      refine zg_istore_n hX dWP_layMessages_41 (Nat.le_of_ble_eq_true rfl) rfl h (fun y41 h => ?_)
      exact zg_sub (zl_k (zl_d (zl_k (zl_k (zl_d zl_n))))) (zm_WP_layMessages_L42 hX hr hm ih F w a0 x2 y41 h)
set_option maxHeartbeats 4000000 in
set_option maxRecDepth 100000 in
theorem zm_WP_layMessages_L10 {X : zg_X} {D : va_G} {G : zw_G} {A : Nat → Prop} {F : Nat} {r : zw_T} (hX : zg_ok X cWP_layMessages RWP 5 3 70 128 0 D G A) (hr : zg_rt X = none) (hm : zg_nm X = yWP_layMessages.name) : ∀ (n : Nat) (w : zw_T) (a0 : Nat) (x2 : Int32), zf_WP_layMessages_L10 F n w a0 x2 = some r → zg X D G A (zg_Q X D G A 128 0 (zr_v r)) 128 0 w 10 [some (va_rf (some a0)), none, some (.int x2), none, none] [] := by
  intro n
  induction n with
  | zero =>
    intro w a0 x2 h
    unfold zf_WP_layMessages_L10 at h
    cases h
  | succ n ih =>
    intro w a0 x2 h
    rw [zf_WP_layMessages_L10] at h
    refine zg_iload_n hX dWP_layMessages_10 rfl ?_
    refine zg_aload_n (x := (some a0)) hX dWP_layMessages_11 rfl ?_
    refine zg_getI (ci := 8) (k := 1) hc_8 (by decide) (by decide) hin_8 zx_92 ft_8_1 hX dWP_layMessages_12 h (fun a12 h => ?_)
    refine zg_icmp_ge (tgt := 34) hX dWP_layMessages_15 rfl h (fun h => ?_) (fun h => ?_)
    · refine zg_iconst hX dWP_layMessages_34 (3 : Int32) (by decide) ?_
      refine zg_istore_n hX dWP_layMessages_35 (Nat.le_of_ble_eq_true rfl) rfl h (fun y35 h => ?_)
      exact zg_sub (zl_k (zl_d (zl_k (zl_d (zl_d zl_n))))) (zm_WP_layMessages_L36 hX hr hm F w a0 y35 h)
    · refine zg_aload_n (x := (some a0)) hX dWP_layMessages_18 rfl ?_
      refine zg_getR (ci := 8) (k := 0) hc_8 (by decide) (by decide) hin_8 zx_91 ft_8_0 hX dWP_layMessages_19 h (fun a19 h => ?_)
      refine zg_iload_n hX dWP_layMessages_22 rfl ?_
      refine zg_aald (ci := 2) (t0 := 4) rfl hX dWP_layMessages_23 h (fun a23 j23 h => ?_)
      refine zg_iconst hX dWP_layMessages_24 (0 : Int32) (by decide) ?_
      refine zg_putI (ci := 2) (k := 10) hc_2 (by decide) (by decide) hin_2 zx_206 ft_2_10 tyId okId nmId rfl (vp_nar_int _) rfl hX dWP_layMessages_25 h (fun w25 h => ?_)
      refine zg_iinc hX dWP_layMessages_28 (1 : Int32) rfl (by decide) (Nat.le_of_ble_eq_true rfl) rfl h (fun y28 h => ?_)
      refine zg_goto (tgt := 10) hX dWP_layMessages_31 rfl ?_
      exact zg_sub (zl_k (zl_d (zl_k (zl_d (zl_d zl_n))))) (ih w25 a0 y28 h)
set_option maxHeartbeats 4000000 in
set_option maxRecDepth 100000 in
theorem zm_WP_layMessages (l : Launch) (D : va_G) (G : zw_G) (A : Nat → Prop) (F : Nat) (w : zw_T) (a0 : Nat) (x1 : Int32) (r : zw_T) (h : zf_WP_layMessages F w a0 x1 = some r) : zc l yWP_layMessages wsWP_layMessages 3 70 128 0 D G A [.ref a0, .int x1] w (zr_v r) := by
  refine zc_of (ret := none) [some (va_rf (some a0)), some (.int x1), none, none, none] (plainFor_of_name (by decide +kernel)) rfl (Nat.le_of_ble_eq_true rfl) rfl rfl (fun X hX hr hm => ?_)
  unfold zf_WP_layMessages at h
  refine zg_aload_n (x := (some a0)) hX dWP_layMessages_0 rfl ?_
  refine zg_getR (ci := 8) (k := 9) hc_8 (by decide) (by decide) hin_8 zx_100 ft_8_9 hX dWP_layMessages_1 h (fun a1 h => ?_)
  refine zg_iload_n hX dWP_layMessages_4 rfl ?_
  obtain ⟨a5, e5, t5, h⟩ := zf_at_e h
  obtain ⟨w5, q5, h⟩ := zf_bv_e h
  refine zg_callV_v (mcy := 0) (w1 := w5) (st := []) hc_3 (by decide) e5 t5 [.int x1] (fun l => zm_Ly_clear l D G A F w a5 x1 w5 q5) (zt_V zx_444 zx_445 zx_446 zx_2 zx_447) rfl hd_Ly_clear (by decide) (by decide) (by decide) (Nat.le_of_ble_eq_true rfl) rfl rfl hX dWP_layMessages_5 ?_
  refine zg_iconst hX dWP_layMessages_8 (0 : Int32) (by decide) ?_
  refine zg_istore_n hX dWP_layMessages_9 (Nat.le_of_ble_eq_true rfl) rfl h (fun y9 h => ?_)
  exact zg_sub (zl_k (zl_d (zl_k (zl_d (zl_d zl_n))))) (zm_WP_layMessages_L10 hX hr hm F w5 a0 y9 h)
def zf_WP_load_L57 (F : Nat) : Nat → zw_T → Nat → Int64 → Int32 → Option (Int32 × zw_T)
  | 0, _, _, _, _ => none
  | n + 1, w, a0, x1, x4 =>
  if x4 < 0 then (
  zf_at w 9 (some a0) fun a94 =>
  some ((zw_I w 1520 a94 0), w))
  else (
  zf_at w 9 (some a0) fun a63 =>
  zf_at w 9 (some a0) fun a67 =>
  zf_bd (zf_WP_byteOf F w x1 x4) fun v73 w73 =>
  zf_ix w73 100 (zw_R w 1519 a63 0) (zw_I w 1520 a67 0) fun a76 j76 => zf_let (zw_sI w73 100 a76 j76 v73) fun w76 =>
  zf_at w76 9 (some a0) fun a79 =>
  zf_at w76 9 (some a0) fun a84 => zf_let (zw_sI w76 1520 a84 0 ((zw_I w76 1520 a79 0) + (1 : Int32))) fun w84 =>
  zf_let (x4 + (-1 : Int32)) fun y87 =>
  zf_WP_load_L57 F n w84 a0 x1 y87)
def zf_WP_load_L27 (F : Nat) : Nat → zw_T → Nat → Int64 → Int32 → Int32 → Option (Int32 × zw_T)
  | 0, _, _, _, _, _ => none
  | n + 1, w, a0, x1, x3, x4 =>
  if x3 ≤ x4 then (
  zf_let (x3 - (1 : Int32)) fun y55 =>
  zf_WP_load_L57 F F w a0 x1 y55)
  else (
  zf_bd (zf_WP_byteOf F w x1 x4) fun v36 w36 =>
  if v36 ≤ (126 : Int32) then (
  zf_let (x4 + (1 : Int32)) fun y46 =>
  zf_WP_load_L27 F n w36 a0 x1 x3 y46)
  else (
  some ((-1 : Int32), w36)))
def zf_WP_load (F : Nat) (w : zw_T) (a0 : Nat) (x1 : Int64) (x3 : Int32) : Option (Int32 × zw_T) :=
  if x3 < (1 : Int32) then (
  some ((-1 : Int32), w))
  else (
  if (8 : Int32) < x3 then (
  some ((-1 : Int32), w))
  else (
  zf_at w 9 (some a0) fun a12 =>
  if ((zw_I w 1520 a12 0) + x3) ≤ (20 : Int32) then (
  zf_let (0 : Int32) fun y25 =>
  zf_WP_load_L27 F F w a0 x1 x3 y25)
  else (
  some ((-1 : Int32), w))))
set_option maxHeartbeats 4000000 in
set_option maxRecDepth 100000 in
theorem zm_WP_load_L57 {X : zg_X} {D : va_G} {G : zw_G} {A : Nat → Prop} {F : Nat} {r : Int32 × zw_T} (hX : zg_ok X cWP_load RWP 5 1 22 128 0 D G A) (hr : zg_rt X = some .int) (hm : zg_nm X = yWP_load.name) : ∀ (n : Nat) (w : zw_T) (a0 : Nat) (x1 : Int64) (x4 : Int32), zf_WP_load_L57 F n w a0 x1 x4 = some r → zg X D G A (zg_Q X D G A 128 0 (zr_i r)) 128 0 w 57 [some (va_rf (some a0)), some (.long x1), none, none, some (.int x4)] [] := by
  intro n
  induction n with
  | zero =>
    intro w a0 x1 x4 h
    unfold zf_WP_load_L57 at h
    cases h
  | succ n ih =>
    intro w a0 x1 x4 h
    rw [zf_WP_load_L57] at h
    refine zg_iload hX dWP_load_57 rfl ?_
    refine zg_if_lt (tgt := 93) hX dWP_load_59 rfl h (fun h => ?_) (fun h => ?_)
    · refine zg_aload_n (x := (some a0)) hX dWP_load_93 rfl ?_
      refine zg_getI (ci := 8) (k := 8) hc_8 (by decide) (by decide) hin_8 zx_99 ft_8_8 hX dWP_load_94 h (fun a94 h => ?_)
      cases h
      exact zg_iret hX hr (by decide) dWP_load_97
    · refine zg_aload_n (x := (some a0)) hX dWP_load_62 rfl ?_
      refine zg_getR (ci := 8) (k := 7) hc_8 (by decide) (by decide) hin_8 zx_98 ft_8_7 hX dWP_load_63 h (fun a63 h => ?_)
      refine zg_aload_n (x := (some a0)) hX dWP_load_66 rfl ?_
      refine zg_getI (ci := 8) (k := 8) hc_8 (by decide) (by decide) hin_8 zx_99 ft_8_8 hX dWP_load_67 h (fun a67 h => ?_)
      refine zg_lload_n hX dWP_load_70 rfl ?_
      refine zg_iload hX dWP_load_71 rfl ?_
      obtain ⟨v73, w73, q73, h⟩ := zf_bd_e h
      refine zg_callS_i (mcy := 0) (v := v73) (w1 := w73) (st := [.int (zw_I w 1520 a67 0), va_rf (zw_R w 1519 a63 0)]) [.long x1, .int x4] (fun l => zm_WP_byteOf l D G A F w x1 x4 (v73, w73) q73) (zt_S zx_354 zx_355 zx_1 zx_356) rfl hd_WP_byteOf (by decide) (by decide) (by decide) (Nat.le_trans (zv_s rfl (zv_s (zv_cat _) zv_s0)) (by decide)) rfl rfl hX dWP_load_73 ?_
      refine zg_iast (kd := 100) (by decide) (by decide) hX dWP_load_76 h (fun w76 h => ?_)
      refine zg_aload_n (x := (some a0)) hX dWP_load_77 rfl ?_
      refine zg_dup hX dWP_load_78 rfl ?_
      refine zg_getI (ci := 8) (k := 8) hc_8 (by decide) (by decide) hin_8 zx_99 ft_8_8 hX dWP_load_79 h (fun a79 h => ?_)
      refine zg_iconst hX dWP_load_82 (1 : Int32) (by decide) ?_
      refine zg_iadd hX dWP_load_83 ?_
      refine zg_putI (ci := 8) (k := 8) hc_8 (by decide) (by decide) hin_8 zx_99 ft_8_8 tyWP okWP nmWP rfl (vp_nar_int _) rfl hX dWP_load_84 h (fun w84 h => ?_)
      refine zg_iinc hX dWP_load_87 (-1 : Int32) rfl (by decide) (Nat.le_of_ble_eq_true rfl) rfl h (fun y87 h => ?_)
      refine zg_goto (tgt := 57) hX dWP_load_90 rfl ?_
      exact zg_sub (zl_k (zl_k (zl_d (zl_d (zl_k zl_n))))) (ih w84 a0 x1 y87 h)
set_option maxHeartbeats 4000000 in
set_option maxRecDepth 100000 in
theorem zm_WP_load_L27 {X : zg_X} {D : va_G} {G : zw_G} {A : Nat → Prop} {F : Nat} {r : Int32 × zw_T} (hX : zg_ok X cWP_load RWP 5 1 22 128 0 D G A) (hr : zg_rt X = some .int) (hm : zg_nm X = yWP_load.name) : ∀ (n : Nat) (w : zw_T) (a0 : Nat) (x1 : Int64) (x3 : Int32) (x4 : Int32), zf_WP_load_L27 F n w a0 x1 x3 x4 = some r → zg X D G A (zg_Q X D G A 128 0 (zr_i r)) 128 0 w 27 [some (va_rf (some a0)), some (.long x1), none, some (.int x3), some (.int x4)] [] := by
  intro n
  induction n with
  | zero =>
    intro w a0 x1 x3 x4 h
    unfold zf_WP_load_L27 at h
    cases h
  | succ n ih =>
    intro w a0 x1 x3 x4 h
    rw [zf_WP_load_L27] at h
    refine zg_iload hX dWP_load_27 rfl ?_
    refine zg_iload_n hX dWP_load_29 rfl ?_
    refine zg_icmp_ge (tgt := 52) hX dWP_load_30 rfl h (fun h => ?_) (fun h => ?_)
    · refine zg_iload_n hX dWP_load_52 rfl ?_
      refine zg_iconst hX dWP_load_53 (1 : Int32) (by decide) ?_
      refine zg_isub hX dWP_load_54 ?_
      refine zg_istore hX dWP_load_55 (Nat.le_of_ble_eq_true rfl) rfl h (fun y55 h => ?_)
      exact zg_sub (zl_k (zl_k (zl_d (zl_d (zl_k zl_n))))) (zm_WP_load_L57 hX hr hm F w a0 x1 y55 h)
    · refine zg_lload_n hX dWP_load_33 rfl ?_
      refine zg_iload hX dWP_load_34 rfl ?_
      obtain ⟨v36, w36, q36, h⟩ := zf_bd_e h
      refine zg_callS_i (mcy := 0) (v := v36) (w1 := w36) (st := []) [.long x1, .int x4] (fun l => zm_WP_byteOf l D G A F w x1 x4 (v36, w36) q36) (zt_S zx_354 zx_355 zx_1 zx_356) rfl hd_WP_byteOf (by decide) (by decide) (by decide) (Nat.le_of_ble_eq_true rfl) rfl rfl hX dWP_load_36 ?_
      refine zg_bipush hX dWP_load_39 (126 : Int32) (by decide) ?_
      refine zg_icmp_le (tgt := 46) hX dWP_load_41 rfl h (fun h => ?_) (fun h => ?_)
      · refine zg_iinc hX dWP_load_46 (1 : Int32) rfl (by decide) (Nat.le_of_ble_eq_true rfl) rfl h (fun y46 h => ?_)
        refine zg_goto (tgt := 27) hX dWP_load_49 rfl ?_
        exact zg_sub (zl_k (zl_k (zl_d (zl_k (zl_k zl_n))))) (ih w36 a0 x1 x3 y46 h)
      · refine zg_iconst hX dWP_load_44 (-1 : Int32) (by decide) ?_
        cases h
        exact zg_iret hX hr (by decide) dWP_load_45
set_option maxHeartbeats 4000000 in
set_option maxRecDepth 100000 in
theorem zm_WP_load (l : Launch) (D : va_G) (G : zw_G) (A : Nat → Prop) (F : Nat) (w : zw_T) (a0 : Nat) (x1 : Int64) (x3 : Int32) (r : Int32 × zw_T) (h : zf_WP_load F w a0 x1 x3 = some r) : zc l yWP_load wsWP_load 1 22 128 0 D G A [.ref a0, .long x1, .int x3] w (zr_i r) := by
  refine zc_of (ret := some .int) [some (va_rf (some a0)), some (.long x1), none, some (.int x3), none] (plainFor_of_name (by decide +kernel)) rfl (Nat.le_of_ble_eq_true rfl) rfl rfl (fun X hX hr hm => ?_)
  unfold zf_WP_load at h
  refine zg_iload_n hX dWP_load_0 rfl ?_
  refine zg_iconst hX dWP_load_1 (1 : Int32) (by decide) ?_
  refine zg_icmp_lt (tgt := 22) hX dWP_load_2 rfl h (fun h => ?_) (fun h => ?_)
  · refine zg_iconst hX dWP_load_22 (-1 : Int32) (by decide) ?_
    cases h
    exact zg_iret hX hr (by decide) dWP_load_23
  · refine zg_iload_n hX dWP_load_5 rfl ?_
    refine zg_bipush hX dWP_load_6 (8 : Int32) (by decide) ?_
    refine zg_icmp_gt (tgt := 22) hX dWP_load_8 rfl h (fun h => ?_) (fun h => ?_)
    · refine zg_iconst hX dWP_load_22 (-1 : Int32) (by decide) ?_
      cases h
      exact zg_iret hX hr (by decide) dWP_load_23
    · refine zg_aload_n (x := (some a0)) hX dWP_load_11 rfl ?_
      refine zg_getI (ci := 8) (k := 8) hc_8 (by decide) (by decide) hin_8 zx_99 ft_8_8 hX dWP_load_12 h (fun a12 h => ?_)
      refine zg_iload_n hX dWP_load_15 rfl ?_
      refine zg_iadd hX dWP_load_16 ?_
      refine zg_bipush hX dWP_load_17 (20 : Int32) (by decide) ?_
      refine zg_icmp_le (tgt := 24) hX dWP_load_19 rfl h (fun h => ?_) (fun h => ?_)
      · refine zg_iconst hX dWP_load_24 (0 : Int32) (by decide) ?_
        refine zg_istore hX dWP_load_25 (Nat.le_of_ble_eq_true rfl) rfl h (fun y25 h => ?_)
        exact zg_sub (zl_k (zl_k (zl_d (zl_k (zl_k zl_n))))) (zm_WP_load_L27 hX hr hm F w a0 x1 x3 y25 h)
      · refine zg_iconst hX dWP_load_22 (-1 : Int32) (by decide) ?_
        cases h
        exact zg_iret hX hr (by decide) dWP_load_23
def zf_Pg_storedAt (F : Nat) (w : zw_T) (a0 : Nat) (x1 : Int32) : Option (Option Nat × zw_T) :=
  if x1 < 0 then (
  some (none, w))
  else (
  zf_at w 7 (some a0) fun a6 =>
  if (zw_I w 1388 a6 0) ≤ x1 then (
  some (none, w))
  else (
  zf_at w 7 (some a0) fun a13 =>
  zf_at w 7 (some a0) fun a17 =>
  zf_ix w 407 (zw_R w 1386 a13 0) (zi_rem ((zw_I w 1387 a17 0) + x1) (10 : Int32)) fun a25 j25 =>
  some ((zw_R w 407 a25 j25), w)))
set_option maxHeartbeats 4000000 in
set_option maxRecDepth 100000 in
theorem zm_Pg_storedAt (l : Launch) (D : va_G) (G : zw_G) (A : Nat → Prop) (F : Nat) (w : zw_T) (a0 : Nat) (x1 : Int32) (r : Option Nat × zw_T) (h : zf_Pg_storedAt F w a0 x1 = some r) : zc l yPg_storedAt wsPg_storedAt 0 0 128 0 D G A [.ref a0, .int x1] w (zr_r r) := by
  refine zc_of (ret := some (.object "WakingPagers$Stored")) [some (va_rf (some a0)), some (.int x1)] (plainFor_of_name (by decide +kernel)) rfl (Nat.le_of_ble_eq_true rfl) rfl rfl (fun X hX hr hm => ?_)
  unfold zf_Pg_storedAt at h
  refine zg_iload_n hX dPg_storedAt_0 rfl ?_
  refine zg_if_lt (tgt := 29) hX dPg_storedAt_1 rfl h (fun h => ?_) (fun h => ?_)
  · refine zg_null hX dPg_storedAt_29 ?_
    cases h
    exact zg_aret _ hX hr (Or.inl ⟨_, rfl⟩) (by decide) dPg_storedAt_30
  · refine zg_iload_n hX dPg_storedAt_4 rfl ?_
    refine zg_aload_n (x := (some a0)) hX dPg_storedAt_5 rfl ?_
    refine zg_getI (ci := 6) (k := 4) hc_6 (by decide) (by decide) hin_6 zx_279 ft_6_4 hX dPg_storedAt_6 h (fun a6 h => ?_)
    refine zg_icmp_ge (tgt := 29) hX dPg_storedAt_9 rfl h (fun h => ?_) (fun h => ?_)
    · refine zg_null hX dPg_storedAt_29 ?_
      cases h
      exact zg_aret _ hX hr (Or.inl ⟨_, rfl⟩) (by decide) dPg_storedAt_30
    · refine zg_aload_n (x := (some a0)) hX dPg_storedAt_12 rfl ?_
      refine zg_getR (ci := 6) (k := 2) hc_6 (by decide) (by decide) hin_6 zx_277 ft_6_2 hX dPg_storedAt_13 h (fun a13 h => ?_)
      refine zg_aload_n (x := (some a0)) hX dPg_storedAt_16 rfl ?_
      refine zg_getI (ci := 6) (k := 3) hc_6 (by decide) (by decide) hin_6 zx_278 ft_6_3 hX dPg_storedAt_17 h (fun a17 h => ?_)
      refine zg_iload_n hX dPg_storedAt_20 rfl ?_
      refine zg_iadd hX dPg_storedAt_21 ?_
      refine zg_bipush hX dPg_storedAt_22 (10 : Int32) (by decide) ?_
      refine zg_irem hX dPg_storedAt_24 (by decide) ?_
      refine zg_aald (ci := 7) (t0 := 7) rfl hX dPg_storedAt_25 h (fun a25 j25 h => ?_)
      refine zg_goto (tgt := 30) hX dPg_storedAt_26 rfl ?_
      cases h
      exact zg_aret _ hX hr (Or.inl ⟨_, rfl⟩) (by decide) dPg_storedAt_30
def zf_WP_storedAt (F : Nat) (w : zw_T) (a0 : Nat) (x1 : Int32) (x2 : Int32) : Option (Option Nat × zw_T) :=
  zf_at w 9 (some a0) fun a2 =>
  zf_bd (zf_WP_pagerAt F w a2 x1) fun v2 w2 =>
  zf_let v2 fun y5 =>
  if y5 = none then (
  some (none, w2))
  else (
  zf_at w2 7 y5 fun a16 =>
  zf_bd (zf_Pg_storedAt F w2 a16 x2) fun v16 w16 =>
  some (v16, w16))
set_option maxHeartbeats 4000000 in
set_option maxRecDepth 100000 in
theorem zm_WP_storedAt (l : Launch) (D : va_G) (G : zw_G) (A : Nat → Prop) (F : Nat) (w : zw_T) (a0 : Nat) (x1 : Int32) (x2 : Int32) (r : Option Nat × zw_T) (h : zf_WP_storedAt F w a0 x1 x2 = some r) : zc l yWP_storedAt wsWP_storedAt 1 21 128 0 D G A [.ref a0, .int x1, .int x2] w (zr_r r) := by
  refine zc_of (ret := some (.object "WakingPagers$Stored")) [some (va_rf (some a0)), some (.int x1), some (.int x2), none] (plainFor_of_name (by decide +kernel)) rfl (Nat.le_of_ble_eq_true rfl) rfl rfl (fun X hX hr hm => ?_)
  unfold zf_WP_storedAt at h
  refine zg_aload_n (x := (some a0)) hX dWP_storedAt_0 rfl ?_
  refine zg_iload_n hX dWP_storedAt_1 rfl ?_
  obtain ⟨a2, e2, t2, h⟩ := zf_at_e h
  obtain ⟨v2, w2, q2, h⟩ := zf_bd_e h
  refine zg_callV_r (mcy := 0) (v := v2) (w1 := w2) (st := []) hc_8 (by decide) e2 t2 [.int x1] (fun l => zm_WP_pagerAt l D G A F w a2 x1 (v2, w2) q2) (zt_V zx_316 zx_318 zs_1 zx_1 zx_319) rfl hd_WP_pagerAt (by decide) (by decide) (by decide) (Nat.le_of_ble_eq_true rfl) rfl rfl hX dWP_storedAt_2 ?_
  refine zg_astore_n hX dWP_storedAt_5 (Nat.le_of_ble_eq_true rfl) rfl h (fun y5 h => ?_)
  refine zg_aload_n (x := y5) hX dWP_storedAt_6 rfl ?_
  refine zg_ifnonnull (tgt := 14) hX dWP_storedAt_7 rfl h (fun h => ?_) (fun h => ?_)
  · refine zg_null hX dWP_storedAt_10 ?_
    refine zg_goto (tgt := 19) hX dWP_storedAt_11 rfl ?_
    cases h
    exact zg_aret _ hX hr (Or.inl ⟨_, rfl⟩) (by decide) dWP_storedAt_19
  · refine zg_aload_n (x := y5) hX dWP_storedAt_14 rfl ?_
    refine zg_iload_n hX dWP_storedAt_15 rfl ?_
    obtain ⟨a16, e16, t16, h⟩ := zf_at_e h
    obtain ⟨v16, w16, q16, h⟩ := zf_bd_e h
    refine zg_callV_r (mcy := 0) (v := v16) (w1 := w16) (st := []) hc_6 (by decide) e16 t16 [.int x2] (fun l => zm_Pg_storedAt l D G A F w2 a16 x2 (v16, w16) q16) (zt_V zx_595 zx_596 zx_597 zx_9 zx_598) rfl hd_Pg_storedAt (by decide) (by decide) (by decide) (Nat.le_of_ble_eq_true rfl) rfl rfl hX dWP_storedAt_16 ?_
    cases h
    exact zg_aret _ hX hr (Or.inl ⟨_, rfl⟩) (by decide) dWP_storedAt_19
def zf_WP_message (F : Nat) (w : zw_T) (a0 : Nat) (x1 : Int32) (x2 : Int32) (x3 : Int32) : Option (Int32 × zw_T) :=
  zf_at w 9 (some a0) fun a3 =>
  zf_bd (zf_WP_storedAt F w a3 x1 x2) fun v3 w3 =>
  zf_let v3 fun y6 =>
  if y6 = none then (
  some ((-1 : Int32), w3))
  else (
  if x3 = 0 then (
  zf_at w3 8 y6 fun a50 =>
  some ((zw_I w3 1448 a50 0), w3))
  else (if x3 = 1 then (
  zf_at w3 8 y6 fun a56 =>
  some ((zw_I w3 1449 a56 0), w3))
  else (if x3 = 2 then (
  zf_at w3 8 y6 fun a62 =>
  some ((zw_I w3 1452 a62 0), w3))
  else (if x3 = 3 then (
  zf_at w3 8 y6 fun a68 =>
  if (zw_I w3 1450 a68 0) = 0 then (
  some ((0 : Int32), w3))
  else (
  some ((1 : Int32), w3)))
  else (
  some ((-1 : Int32), w3))))))
set_option maxHeartbeats 4000000 in
set_option maxRecDepth 100000 in
theorem zm_WP_message (l : Launch) (D : va_G) (G : zw_G) (A : Nat → Prop) (F : Nat) (w : zw_T) (a0 : Nat) (x1 : Int32) (x2 : Int32) (x3 : Int32) (r : Int32 × zw_T) (h : zf_WP_message F w a0 x1 x2 x3 = some r) : zc l yWP_message wsWP_message 2 44 128 0 D G A [.ref a0, .int x1, .int x2, .int x3] w (zr_i r) := by
  refine zc_of (ret := some .int) [some (va_rf (some a0)), some (.int x1), some (.int x2), some (.int x3), none] (plainFor_of_name (by decide +kernel)) rfl (Nat.le_of_ble_eq_true rfl) rfl rfl (fun X hX hr hm => ?_)
  unfold zf_WP_message at h
  refine zg_aload_n (x := (some a0)) hX dWP_message_0 rfl ?_
  refine zg_iload_n hX dWP_message_1 rfl ?_
  refine zg_iload_n hX dWP_message_2 rfl ?_
  obtain ⟨a3, e3, t3, h⟩ := zf_at_e h
  obtain ⟨v3, w3, q3, h⟩ := zf_bd_e h
  refine zg_callV_r (mcy := 0) (v := v3) (w1 := w3) (st := []) hc_8 (by decide) e3 t3 [.int x1, .int x2] (fun l => zm_WP_storedAt l D G A F w a3 x1 x2 (v3, w3) q3) (zt_V zx_591 zx_593 zs_16 zx_1 zx_594) rfl hd_WP_storedAt (by decide) (by decide) (by decide) (Nat.le_of_ble_eq_true rfl) rfl rfl hX dWP_message_3 ?_
  refine zg_astore hX dWP_message_6 (Nat.le_of_ble_eq_true rfl) rfl h (fun y6 h => ?_)
  refine zg_aload (x := y6) hX dWP_message_8 rfl ?_
  refine zg_ifnonnull (tgt := 15) hX dWP_message_10 rfl h (fun h => ?_) (fun h => ?_)
  · refine zg_iconst hX dWP_message_13 (-1 : Int32) (by decide) ?_
    cases h
    exact zg_iret hX hr (by decide) dWP_message_14
  · refine zg_iload_n hX dWP_message_15 rfl ?_
    refine zg_tsw4 (g0 := 48) (g1 := 54) (g2 := 60) (g3 := 66) (gd := 80) hX dWP_message_16 rfl rfl rfl rfl rfl h (fun h => ?_) (fun h => ?_) (fun h => ?_) (fun h => ?_) (fun h => ?_)
    · refine zg_aload (x := y6) hX dWP_message_48 rfl ?_
      refine zg_getI (ci := 7) (k := 0) hc_7 (by decide) (by decide) hin_7 zx_250 ft_7_0 hX dWP_message_50 h (fun a50 h => ?_)
      cases h
      exact zg_iret hX hr (by decide) dWP_message_53
    · refine zg_aload (x := y6) hX dWP_message_54 rfl ?_
      refine zg_getI (ci := 7) (k := 1) hc_7 (by decide) (by decide) hin_7 zx_253 ft_7_1 hX dWP_message_56 h (fun a56 h => ?_)
      cases h
      exact zg_iret hX hr (by decide) dWP_message_59
    · refine zg_aload (x := y6) hX dWP_message_60 rfl ?_
      refine zg_getI (ci := 7) (k := 4) hc_7 (by decide) (by decide) hin_7 zx_262 ft_7_4 hX dWP_message_62 h (fun a62 h => ?_)
      cases h
      exact zg_iret hX hr (by decide) dWP_message_65
    · refine zg_aload (x := y6) hX dWP_message_66 rfl ?_
      refine zg_getI (ci := 7) (k := 2) hc_7 (by decide) (by decide) hin_7 zx_256 ft_7_2 hX dWP_message_68 h (fun a68 h => ?_)
      refine zg_if_eq (tgt := 78) hX dWP_message_71 rfl h (fun h => ?_) (fun h => ?_)
      · refine zg_iconst hX dWP_message_78 (0 : Int32) (by decide) ?_
        cases h
        exact zg_iret hX hr (by decide) dWP_message_79
      · refine zg_iconst hX dWP_message_74 (1 : Int32) (by decide) ?_
        refine zg_goto (tgt := 79) hX dWP_message_75 rfl ?_
        cases h
        exact zg_iret hX hr (by decide) dWP_message_79
    · refine zg_iconst hX dWP_message_80 (-1 : Int32) (by decide) ?_
      cases h
      exact zg_iret hX hr (by decide) dWP_message_81
def zf_WP_missed_j19 (F : Nat) (w : zw_T) (s0 : Option Nat) : Option (Int64 × zw_T) :=
  zf_let s0 fun y19 =>
  if y19 = none then (
  some ((0 : Int64), w))
  else (
  zf_at w 2 y19 fun a32 =>
  some ((zw_L w 1065 a32 0), w))
def zf_WP_missed (F : Nat) (w : zw_T) (a0 : Nat) (x1 : Int32) (x2 : Int32) : Option (Int64 × zw_T) :=
  zf_at w 9 (some a0) fun a2 =>
  zf_bd (zf_WP_pagerAt F w a2 x1) fun v2 w2 =>
  zf_let v2 fun y5 =>
  if y5 = none then (
  zf_WP_missed_j19 F w2 none)
  else (
  zf_at w2 7 y5 fun a16 =>
  zf_bd (zf_Pg_heardOf F w2 a16 x2) fun v16 w16 =>
  zf_WP_missed_j19 F w16 v16)
set_option maxHeartbeats 4000000 in
set_option maxRecDepth 100000 in
theorem zm_WP_missed_j19 {X : zg_X} {D : va_G} {G : zw_G} {A : Nat → Prop} {F : Nat} {r : Int64 × zw_T} (hX : zg_ok X cWP_missed RWP 5 1 22 128 0 D G A) (hr : zg_rt X = some .long) (hm : zg_nm X = yWP_missed.name) (w : zw_T) (s0 : Option Nat) (h : zf_WP_missed_j19 F w s0 = some r) : zg X D G A (zg_Q X D G A 128 0 (zr_l r)) 128 0 w 19 [none, none, none, none, none] [va_rf s0] := by
  unfold zf_WP_missed_j19 at h
  refine zg_astore hX dWP_missed_19 (Nat.le_of_ble_eq_true rfl) rfl h (fun y19 h => ?_)
  refine zg_aload (x := y19) hX dWP_missed_21 rfl ?_
  refine zg_ifnonnull (tgt := 30) hX dWP_missed_23 rfl h (fun h => ?_) (fun h => ?_)
  · refine zg_lconst hX dWP_missed_26 (0 : Int64) (by decide) ?_
    refine zg_goto (tgt := 35) hX dWP_missed_27 rfl ?_
    cases h
    exact zg_lret hX hr (by decide) dWP_missed_35
  · refine zg_aload (x := y19) hX dWP_missed_30 rfl ?_
    refine zg_getL (ci := 1) (k := 1) hc_1 (by decide) (by decide) hin_1 zx_341 ft_1_1 hX dWP_missed_32 h (fun a32 h => ?_)
    cases h
    exact zg_lret hX hr (by decide) dWP_missed_35
set_option maxHeartbeats 4000000 in
set_option maxRecDepth 100000 in
theorem zm_WP_missed (l : Launch) (D : va_G) (G : zw_G) (A : Nat → Prop) (F : Nat) (w : zw_T) (a0 : Nat) (x1 : Int32) (x2 : Int32) (r : Int64 × zw_T) (h : zf_WP_missed F w a0 x1 x2 = some r) : zc l yWP_missed wsWP_missed 1 22 128 0 D G A [.ref a0, .int x1, .int x2] w (zr_l r) := by
  refine zc_of (ret := some .long) [some (va_rf (some a0)), some (.int x1), some (.int x2), none, none] (plainFor_of_name (by decide +kernel)) rfl (Nat.le_of_ble_eq_true rfl) rfl rfl (fun X hX hr hm => ?_)
  unfold zf_WP_missed at h
  refine zg_aload_n (x := (some a0)) hX dWP_missed_0 rfl ?_
  refine zg_iload_n hX dWP_missed_1 rfl ?_
  obtain ⟨a2, e2, t2, h⟩ := zf_at_e h
  obtain ⟨v2, w2, q2, h⟩ := zf_bd_e h
  refine zg_callV_r (mcy := 0) (v := v2) (w1 := w2) (st := []) hc_8 (by decide) e2 t2 [.int x1] (fun l => zm_WP_pagerAt l D G A F w a2 x1 (v2, w2) q2) (zt_V zx_316 zx_318 zs_1 zx_1 zx_319) rfl hd_WP_pagerAt (by decide) (by decide) (by decide) (Nat.le_of_ble_eq_true rfl) rfl rfl hX dWP_missed_2 ?_
  refine zg_astore_n hX dWP_missed_5 (Nat.le_of_ble_eq_true rfl) rfl h (fun y5 h => ?_)
  refine zg_aload_n (x := y5) hX dWP_missed_6 rfl ?_
  refine zg_ifnonnull (tgt := 14) hX dWP_missed_7 rfl h (fun h => ?_) (fun h => ?_)
  · refine zg_null hX dWP_missed_10 ?_
    refine zg_goto (tgt := 19) hX dWP_missed_11 rfl ?_
    exact zg_sub (zl_d (zl_d (zl_d (zl_d (zl_d zl_n))))) (zm_WP_missed_j19 hX hr hm w2 none h)
  · refine zg_aload_n (x := y5) hX dWP_missed_14 rfl ?_
    refine zg_iload_n hX dWP_missed_15 rfl ?_
    obtain ⟨a16, e16, t16, h⟩ := zf_at_e h
    obtain ⟨v16, w16, q16, h⟩ := zf_bd_e h
    refine zg_callV_r (mcy := 0) (v := v16) (w1 := w16) (st := []) hc_6 (by decide) e16 t16 [.int x2] (fun l => zm_Pg_heardOf l D G A F w2 a16 x2 (v16, w16) q16) (zt_V zx_607 zx_329 zx_330 zx_9 zx_331) rfl hd_Pg_heardOf (by decide) (by decide) (by decide) (Nat.le_of_ble_eq_true rfl) rfl rfl hX dWP_missed_16 ?_
    exact zg_sub (zl_d (zl_d (zl_d (zl_d (zl_d zl_n))))) (zm_WP_missed_j19 hX hr hm w16 v16 h)
def zf_Sd_init (F : Nat) (w : zw_T) (a0 : Nat) : Option (zw_T) :=
  zf_at w 8 (some a0) fun a6 => zf_let (zw_sI w 1448 a6 0 (-1 : Int32)) fun w6 =>
  zf_at w6 8 (some a0) fun a11 => zf_let (zw_sI w6 1449 a11 0 (-1 : Int32)) fun w11 =>
  zf_b (0 : Int32) (
  zf_at w11 8 (some a0) fun a16 => zf_let (zw_sI w11 1450 a16 0 (0 : Int32)) fun w16 =>
  zf_na 128 w16 104 (21 : Int32) fun w22 =>
  zf_at w22 8 (some a0) fun a24 => zf_let (zw_sR w22 1451 a24 0 (some (zw_n w16))) fun w24 =>
  zf_at w24 8 (some a0) fun a29 => zf_let (zw_sI w24 1452 a29 0 (0 : Int32)) fun w29 =>
  some w29)
set_option maxHeartbeats 4000000 in
set_option maxRecDepth 100000 in
theorem zm_Sd_init (l : Launch) (D : va_G) (G : zw_G) (A : Nat → Prop) (F : Nat) (w : zw_T) (a0 : Nat) (r : zw_T) (h : zf_Sd_init F w a0 = some r) : zc l ySd_init wsSd_init 1 20 128 1 D G A [.ref a0] w (zr_v r) := by
  refine zc_of (ret := none) [some (va_rf (some a0))] (plainFor_of_name (by decide +kernel)) rfl (Nat.le_of_ble_eq_true rfl) rfl rfl (fun X hX hr hm => ?_)
  unfold zf_Sd_init at h
  refine zg_aload_n (x := (some a0)) hX dSd_init_0 rfl ?_
  refine zg_oinit zx_247 zx_22 zx_23 (by decide) (by decide) rfl hX dSd_init_1 ?_
  refine zg_aload_n (x := (some a0)) hX dSd_init_4 rfl ?_
  refine zg_iconst hX dSd_init_5 (-1 : Int32) (by decide) ?_
  refine zg_putI (ci := 7) (k := 0) hc_7 (by decide) (by decide) hin_7 zx_248 ft_7_0 tySd okSd nmSd rfl (vp_nar_int _) rfl hX dSd_init_6 h (fun w6 h => ?_)
  refine zg_aload_n (x := (some a0)) hX dSd_init_9 rfl ?_
  refine zg_iconst hX dSd_init_10 (-1 : Int32) (by decide) ?_
  refine zg_putI (ci := 7) (k := 1) hc_7 (by decide) (by decide) hin_7 zx_251 ft_7_1 tySd okSd nmSd rfl (vp_nar_int _) rfl hX dSd_init_11 h (fun w11 h => ?_)
  refine zg_aload_n (x := (some a0)) hX dSd_init_14 rfl ?_
  refine zg_iconst hX dSd_init_15 (0 : Int32) (by decide) ?_
  obtain ⟨hb16, h⟩ := zf_b_e h
  refine zg_putI (ci := 7) (k := 2) hc_7 (by decide) (by decide) hin_7 zx_254 ft_7_2 tySd okSd nmSd rfl (zf_b_n hb16).1 (zf_b_n hb16).2 hX dSd_init_16 h (fun w16 h => ?_)
  refine zg_aload_n (x := (some a0)) hX dSd_init_19 rfl ?_
  refine zg_bipush hX dSd_init_20 (21 : Int32) (by decide) ?_
  refine zg_newi (kd := 104) (bd := 128) (by decide) (by decide) (by decide) (by decide) zx_44 (by decide) hX dSd_init_22 h (fun w22 h => ?_)
  refine zg_pfiR (ci := 7) (k := 3) hc_7 (by decide) (by decide) hin_7 zx_257 ft_7_3 tySd okSd nmSd rfl hm rfl (zv_na _ _).1 (zv_na _ _).2 hX dSd_init_24 h (fun w24 h => ?_)
  refine zg_aload_n (x := (some a0)) hX dSd_init_27 rfl ?_
  refine zg_iconst hX dSd_init_28 (0 : Int32) (by decide) ?_
  refine zg_putI (ci := 7) (k := 4) hc_7 (by decide) (by decide) hin_7 zx_260 ft_7_4 tySd okSd nmSd rfl (vp_nar_int _) rfl hX dSd_init_29 h (fun w29 h => ?_)
  cases h
  exact zg_vret hX hr (by decide) dSd_init_32
def zf_WP_repair (F : Nat) (w : zw_T) (a0 : Nat) (x1 : Int32) : Option (Int32 × zw_T) :=
  zf_bd (zf_Rp_wrongBits F w x1) fun v1 w1 =>
  zf_let v1 fun y4 =>
  if y4 = (-1 : Int32) then (
  some ((-1 : Int32), w1))
  else (
  some ((zi_ushr (x1 ^^^ y4) (11 : Int32)), w1))
set_option maxHeartbeats 4000000 in
set_option maxRecDepth 100000 in
theorem zm_WP_repair (l : Launch) (D : va_G) (G : zw_G) (A : Nat → Prop) (F : Nat) (w : zw_T) (a0 : Nat) (x1 : Int32) (r : Int32 × zw_T) (h : zf_WP_repair F w a0 x1 = some r) : zc l yWP_repair wsWP_repair 3 63 128 0 D G A [.ref a0, .int x1] w (zr_i r) := by
  refine zc_of (ret := some .int) [some (va_rf (some a0)), some (.int x1), none] (plainFor_of_name (by decide +kernel)) rfl (Nat.le_of_ble_eq_true rfl) rfl rfl (fun X hX hr hm => ?_)
  unfold zf_WP_repair at h
  refine zg_iload_n hX dWP_repair_0 rfl ?_
  obtain ⟨v1, w1, q1, h⟩ := zf_bd_e h
  refine zg_callS_i (mcy := 0) (v := v1) (w1 := w1) (st := []) [.int x1] (fun l => zm_Rp_wrongBits l D G A F w x1 (v1, w1) q1) (zt_S zx_149 zx_150 zx_6 zx_151) rfl hd_Rp_wrongBits (by decide) (by decide) (by decide) (Nat.le_of_ble_eq_true rfl) rfl rfl hX dWP_repair_1 ?_
  refine zg_istore_n hX dWP_repair_4 (Nat.le_of_ble_eq_true rfl) rfl h (fun y4 h => ?_)
  refine zg_iload_n hX dWP_repair_5 rfl ?_
  refine zg_iconst hX dWP_repair_6 (-1 : Int32) (by decide) ?_
  refine zg_icmp_ne (tgt := 14) hX dWP_repair_7 rfl h (fun h => ?_) (fun h => ?_)
  · refine zg_iconst hX dWP_repair_10 (-1 : Int32) (by decide) ?_
    refine zg_goto (tgt := 20) hX dWP_repair_11 rfl ?_
    cases h
    exact zg_iret hX hr (by decide) dWP_repair_20
  · refine zg_iload_n hX dWP_repair_14 rfl ?_
    refine zg_iload_n hX dWP_repair_15 rfl ?_
    refine zg_ixor hX dWP_repair_16 ?_
    refine zg_bipush hX dWP_repair_17 (11 : Int32) (by decide) ?_
    refine zg_iushr hX dWP_repair_19 ?_
    cases h
    exact zg_iret hX hr (by decide) dWP_repair_20
def zf_WP_sign (F : Nat) (w : zw_T) (a0 : Nat) (x1 : Int32) (x2 : Int32) (x3 : Int32) : Option (Int32 × zw_T) :=
  zf_at w 9 (some a0) fun a3 =>
  zf_bd (zf_WP_storedAt F w a3 x1 x2) fun v3 w3 =>
  zf_let v3 fun y6 =>
  if y6 = none then (
  some ((-1 : Int32), w3))
  else (
  if x3 < 0 then (
  some ((-1 : Int32), w3))
  else (
  zf_at w3 8 y6 fun a20 =>
  if x3 < (zw_I w3 1452 a20 0) then (
  zf_at w3 8 y6 fun a32 =>
  zf_ix w3 104 (zw_R w3 1451 a32 0) x3 fun a36 j36 =>
  some ((zw_I w3 104 a36 j36), w3))
  else (
  some ((-1 : Int32), w3))))
set_option maxHeartbeats 4000000 in
set_option maxRecDepth 100000 in
theorem zm_WP_sign (l : Launch) (D : va_G) (G : zw_G) (A : Nat → Prop) (F : Nat) (w : zw_T) (a0 : Nat) (x1 : Int32) (x2 : Int32) (x3 : Int32) (r : Int32 × zw_T) (h : zf_WP_sign F w a0 x1 x2 x3 = some r) : zc l yWP_sign wsWP_sign 2 44 128 0 D G A [.ref a0, .int x1, .int x2, .int x3] w (zr_i r) := by
  refine zc_of (ret := some .int) [some (va_rf (some a0)), some (.int x1), some (.int x2), some (.int x3), none] (plainFor_of_name (by decide +kernel)) rfl (Nat.le_of_ble_eq_true rfl) rfl rfl (fun X hX hr hm => ?_)
  unfold zf_WP_sign at h
  refine zg_aload_n (x := (some a0)) hX dWP_sign_0 rfl ?_
  refine zg_iload_n hX dWP_sign_1 rfl ?_
  refine zg_iload_n hX dWP_sign_2 rfl ?_
  obtain ⟨a3, e3, t3, h⟩ := zf_at_e h
  obtain ⟨v3, w3, q3, h⟩ := zf_bd_e h
  refine zg_callV_r (mcy := 0) (v := v3) (w1 := w3) (st := []) hc_8 (by decide) e3 t3 [.int x1, .int x2] (fun l => zm_WP_storedAt l D G A F w a3 x1 x2 (v3, w3) q3) (zt_V zx_591 zx_593 zs_16 zx_1 zx_594) rfl hd_WP_storedAt (by decide) (by decide) (by decide) (Nat.le_of_ble_eq_true rfl) rfl rfl hX dWP_sign_3 ?_
  refine zg_astore hX dWP_sign_6 (Nat.le_of_ble_eq_true rfl) rfl h (fun y6 h => ?_)
  refine zg_aload (x := y6) hX dWP_sign_8 rfl ?_
  refine zg_ifnull (tgt := 26) hX dWP_sign_10 rfl h (fun h => ?_) (fun h => ?_)
  · refine zg_iconst hX dWP_sign_26 (-1 : Int32) (by decide) ?_
    refine zg_goto (tgt := 37) hX dWP_sign_27 rfl ?_
    cases h
    exact zg_iret hX hr (by decide) dWP_sign_37
  · refine zg_iload_n hX dWP_sign_13 rfl ?_
    refine zg_if_lt (tgt := 26) hX dWP_sign_14 rfl h (fun h => ?_) (fun h => ?_)
    · refine zg_iconst hX dWP_sign_26 (-1 : Int32) (by decide) ?_
      refine zg_goto (tgt := 37) hX dWP_sign_27 rfl ?_
      cases h
      exact zg_iret hX hr (by decide) dWP_sign_37
    · refine zg_iload_n hX dWP_sign_17 rfl ?_
      refine zg_aload (x := y6) hX dWP_sign_18 rfl ?_
      refine zg_getI (ci := 7) (k := 4) hc_7 (by decide) (by decide) hin_7 zx_262 ft_7_4 hX dWP_sign_20 h (fun a20 h => ?_)
      refine zg_icmp_lt (tgt := 30) hX dWP_sign_23 rfl h (fun h => ?_) (fun h => ?_)
      · refine zg_aload (x := y6) hX dWP_sign_30 rfl ?_
        refine zg_getR (ci := 7) (k := 3) hc_7 (by decide) (by decide) hin_7 zx_259 ft_7_3 hX dWP_sign_32 h (fun a32 h => ?_)
        refine zg_iload_n hX dWP_sign_35 rfl ?_
        refine zg_iald (kd := 104) (by decide) (by decide) hX dWP_sign_36 h (fun a36 j36 h => ?_)
        cases h
        exact zg_iret hX hr (by decide) dWP_sign_37
      · refine zg_iconst hX dWP_sign_26 (-1 : Int32) (by decide) ?_
        refine zg_goto (tgt := 37) hX dWP_sign_27 rfl ?_
        cases h
        exact zg_iret hX hr (by decide) dWP_sign_37
def zf_Ai_send_L31 (F : Nat) : Nat → zw_T → Nat → (Option Nat) → Int32 → Int32 → Int32 → Option (zw_T)
  | 0, _, _, _, _, _, _ => none
  | n + 1, w, a0, o1, x2, x3, x4 =>
  if x2 ≤ x4 then (
  zf_at w 1 (some a0) fun a78 => zf_let (zw_sI w 1001 a78 0 (x3 * (32 : Int32))) fun w78 =>
  some w78)
  else (
  zf_at w 1 (some a0) fun a38 =>
  zf_let (x3 + (1 : Int32)) fun y42 =>
  zf_ix w 102 (zw_R w 1000 a38 0) x3 fun a47 j47 => zf_let (zw_sI w 102 a47 j47 (2094142936 : Int32)) fun w47 =>
  zf_at w47 1 (some a0) fun a55 =>
  zf_cp w47 101 102 o1 (x4 * (16 : Int32)) (zw_R w47 1000 a55 0) y42 (16 : Int32) fun w61 =>
  zf_let (y42 + (16 : Int32)) fun y64 =>
  zf_let (x4 + (1 : Int32)) fun y67 =>
  zf_Ai_send_L31 F n w61 a0 o1 x2 y64 y67)
def zf_Ai_send_L5 (F : Nat) : Nat → zw_T → Nat → (Option Nat) → Int32 → Int32 → Int32 → Option (zw_T)
  | 0, _, _, _, _, _, _ => none
  | n + 1, w, a0, o1, x2, x3, x4 =>
  if (2 : Int32) ≤ x4 then (
  zf_let (0 : Int32) fun y29 =>
  zf_Ai_send_L31 F F w a0 o1 x2 x3 y29)
  else (
  zf_at w 1 (some a0) fun a12 =>
  zf_let (x3 + (1 : Int32)) fun y16 =>
  zf_ix w 102 (zw_R w 1000 a12 0) x3 fun a21 j21 => zf_let (zw_sI w 102 a21 j21 (-1431655766 : Int32)) fun w21 =>
  zf_let (x4 + (1 : Int32)) fun y22 =>
  zf_Ai_send_L5 F n w21 a0 o1 x2 y16 y22)
def zf_Ai_send (F : Nat) (w : zw_T) (a0 : Nat) (o1 : Option Nat) (x2 : Int32) : Option (zw_T) :=
  zf_let (0 : Int32) fun y1 =>
  zf_let (0 : Int32) fun y3 =>
  zf_Ai_send_L5 F F w a0 o1 x2 y1 y3
set_option maxHeartbeats 4000000 in
set_option maxRecDepth 100000 in
theorem zm_Ai_send_L31 {X : zg_X} {D : va_G} {G : zw_G} {A : Nat → Prop} {F : Nat} {r : zw_T} (hX : zg_ok X cAi_send RAi 5 1 40 128 0 D G A) (hr : zg_rt X = none) (hm : zg_nm X = yAi_send.name) : ∀ (n : Nat) (w : zw_T) (a0 : Nat) (o1 : Option Nat) (x2 : Int32) (x3 : Int32) (x4 : Int32), zf_Ai_send_L31 F n w a0 o1 x2 x3 x4 = some r → zg X D G A (zg_Q X D G A 128 0 (zr_v r)) 128 0 w 31 [some (va_rf (some a0)), some (va_rf o1), some (.int x2), some (.int x3), some (.int x4)] [] := by
  intro n
  induction n with
  | zero =>
    intro w a0 o1 x2 x3 x4 h
    unfold zf_Ai_send_L31 at h
    cases h
  | succ n ih =>
    intro w a0 o1 x2 x3 x4 h
    rw [zf_Ai_send_L31] at h
    refine zg_iload hX dAi_send_31 rfl ?_
    refine zg_iload_n hX dAi_send_33 rfl ?_
    refine zg_icmp_ge (tgt := 73) hX dAi_send_34 rfl h (fun h => ?_) (fun h => ?_)
    · refine zg_aload_n (x := (some a0)) hX dAi_send_73 rfl ?_
      refine zg_iload_n hX dAi_send_74 rfl ?_
      refine zg_bipush hX dAi_send_75 (32 : Int32) (by decide) ?_
      refine zg_imul hX dAi_send_77 ?_
      refine zg_putI (ci := 0) (k := 1) hc_0 (by decide) (by decide) hin_0 zx_52 ft_0_1 tyAi okAi nmAi rfl (vp_nar_int _) rfl hX dAi_send_78 h (fun w78 h => ?_)
      cases h
      exact zg_vret hX hr (by decide) dAi_send_81
    · refine zg_aload_n (x := (some a0)) hX dAi_send_37 rfl ?_
      refine zg_getR (ci := 0) (k := 0) hc_0 (by decide) (by decide) hin_0 zx_51 ft_0_0 hX dAi_send_38 h (fun a38 h => ?_)
      refine zg_iload_n hX dAi_send_41 rfl ?_
      refine zg_iinc hX dAi_send_42 (1 : Int32) rfl (by decide) (Nat.le_of_ble_eq_true rfl) rfl h (fun y42 h => ?_)
      refine zg_ldc hX dAi_send_45 (2094142936 : Int32) zx_470 ?_
      refine zg_iast (kd := 102) (by decide) (by decide) hX dAi_send_47 h (fun w47 h => ?_)
      refine zg_aload_n (x := o1) hX dAi_send_48 rfl ?_
      refine zg_iload hX dAi_send_49 rfl ?_
      refine zg_bipush hX dAi_send_51 (16 : Int32) (by decide) ?_
      refine zg_imul hX dAi_send_53 ?_
      refine zg_aload_n (x := (some a0)) hX dAi_send_54 rfl ?_
      refine zg_getR (ci := 0) (k := 0) hc_0 (by decide) (by decide) hin_0 zx_51 ft_0_0 hX dAi_send_55 h (fun a55 h => ?_)
      refine zg_iload_n hX dAi_send_58 rfl ?_
      refine zg_bipush hX dAi_send_59 (16 : Int32) (by decide) ?_
      refine zg_copy (k0 := 101) (k1 := 102) (by decide) (by decide) (by decide) (by decide) zx_471 zx_385 zx_384 zx_15 (by decide) (by decide) rfl hX dAi_send_61 h (fun w61 h => ?_)
      refine zg_iinc hX dAi_send_64 (16 : Int32) rfl (by decide) (Nat.le_of_ble_eq_true rfl) rfl h (fun y64 h => ?_)
      refine zg_iinc hX dAi_send_67 (1 : Int32) rfl (by decide) (Nat.le_of_ble_eq_true rfl) rfl h (fun y67 h => ?_)
      refine zg_goto (tgt := 31) hX dAi_send_70 rfl ?_
      exact zg_sub (zl_k (zl_k (zl_k (zl_k (zl_k zl_n))))) (ih w61 a0 o1 x2 y64 y67 h)
set_option maxHeartbeats 4000000 in
set_option maxRecDepth 100000 in
theorem zm_Ai_send_L5 {X : zg_X} {D : va_G} {G : zw_G} {A : Nat → Prop} {F : Nat} {r : zw_T} (hX : zg_ok X cAi_send RAi 5 1 40 128 0 D G A) (hr : zg_rt X = none) (hm : zg_nm X = yAi_send.name) : ∀ (n : Nat) (w : zw_T) (a0 : Nat) (o1 : Option Nat) (x2 : Int32) (x3 : Int32) (x4 : Int32), zf_Ai_send_L5 F n w a0 o1 x2 x3 x4 = some r → zg X D G A (zg_Q X D G A 128 0 (zr_v r)) 128 0 w 5 [some (va_rf (some a0)), some (va_rf o1), some (.int x2), some (.int x3), some (.int x4)] [] := by
  intro n
  induction n with
  | zero =>
    intro w a0 o1 x2 x3 x4 h
    unfold zf_Ai_send_L5 at h
    cases h
  | succ n ih =>
    intro w a0 o1 x2 x3 x4 h
    rw [zf_Ai_send_L5] at h
    refine zg_iload hX dAi_send_5 rfl ?_
    refine zg_iconst hX dAi_send_7 (2 : Int32) (by decide) ?_
    refine zg_icmp_ge (tgt := 28) hX dAi_send_8 rfl h (fun h => ?_) (fun h => ?_)
    · refine zg_iconst hX dAi_send_28 (0 : Int32) (by decide) ?_
      refine zg_istore hX dAi_send_29 (Nat.le_of_ble_eq_true rfl) rfl h (fun y29 h => ?_)
      exact zg_sub (zl_k (zl_k (zl_k (zl_k (zl_k zl_n))))) (zm_Ai_send_L31 hX hr hm F w a0 o1 x2 x3 y29 h)
    · refine zg_aload_n (x := (some a0)) hX dAi_send_11 rfl ?_
      refine zg_getR (ci := 0) (k := 0) hc_0 (by decide) (by decide) hin_0 zx_51 ft_0_0 hX dAi_send_12 h (fun a12 h => ?_)
      refine zg_iload_n hX dAi_send_15 rfl ?_
      refine zg_iinc hX dAi_send_16 (1 : Int32) rfl (by decide) (Nat.le_of_ble_eq_true rfl) rfl h (fun y16 h => ?_)
      refine zg_ldc hX dAi_send_19 (-1431655766 : Int32) zx_469 ?_
      refine zg_iast (kd := 102) (by decide) (by decide) hX dAi_send_21 h (fun w21 h => ?_)
      refine zg_iinc hX dAi_send_22 (1 : Int32) rfl (by decide) (Nat.le_of_ble_eq_true rfl) rfl h (fun y22 h => ?_)
      refine zg_goto (tgt := 5) hX dAi_send_25 rfl ?_
      exact zg_sub (zl_k (zl_k (zl_k (zl_k (zl_k zl_n))))) (ih w21 a0 o1 x2 y16 y22 h)
set_option maxHeartbeats 4000000 in
set_option maxRecDepth 100000 in
theorem zm_Ai_send (l : Launch) (D : va_G) (G : zw_G) (A : Nat → Prop) (F : Nat) (w : zw_T) (a0 : Nat) (o1 : Option Nat) (x2 : Int32) (r : zw_T) (h : zf_Ai_send F w a0 o1 x2 = some r) : zc l yAi_send wsAi_send 1 40 128 0 D G A [.ref a0, va_rf o1, .int x2] w (zr_v r) := by
  refine zc_of (ret := none) [some (va_rf (some a0)), some (va_rf o1), some (.int x2), none, none] (plainFor_of_name (by decide +kernel)) rfl (by cases o1 <;> exact Nat.le_of_ble_eq_true rfl) (by cases o1 <;> rfl) rfl (fun X hX hr hm => ?_)
  unfold zf_Ai_send at h
  refine zg_iconst hX dAi_send_0 (0 : Int32) (by decide) ?_
  refine zg_istore_n hX dAi_send_1 (Nat.le_of_ble_eq_true rfl) rfl h (fun y1 h => ?_)
  refine zg_iconst hX dAi_send_2 (0 : Int32) (by decide) ?_
  refine zg_istore hX dAi_send_3 (Nat.le_of_ble_eq_true rfl) rfl h (fun y3 h => ?_)
  exact zg_sub (zl_k (zl_k (zl_k (zl_k (zl_k zl_n))))) (zm_Ai_send_L5 hX hr hm F w a0 o1 x2 y1 y3 h)
def zf_WP_transmit (F : Nat) (w : zw_T) (a0 : Nat) (x1 : Int32) : Option (Int32 × zw_T) :=
  if x1 < (1 : Int32) then (
  some ((-1 : Int32), w))
  else (
  if x1 ≤ (4 : Int32) then (
  zf_at w 9 (some a0) fun a14 =>
  zf_bv (zf_WP_layMessages F w a14 x1) fun w14 =>
  zf_at w14 9 (some a0) fun a18 =>
  zf_at w14 9 (some a0) fun a22 =>
  zf_at w14 4 (zw_R w14 1521 a22 0) fun a25 =>
  zf_at w14 1 (zw_R w14 1522 a18 0) fun a29 =>
  zf_bv (zf_Ai_send F w14 a29 (zw_R w14 1192 a25 0) x1) fun w29 =>
  zf_at w29 9 (some a0) fun a33 =>
  zf_at w29 1 (zw_R w29 1522 a33 0) fun a36 =>
  some ((zw_I w29 1001 a36 0), w29))
  else (
  some ((-1 : Int32), w)))
set_option maxHeartbeats 4000000 in
set_option maxRecDepth 100000 in
theorem zm_WP_transmit (l : Launch) (D : va_G) (G : zw_G) (A : Nat → Prop) (F : Nat) (w : zw_T) (a0 : Nat) (x1 : Int32) (r : Int32 × zw_T) (h : zf_WP_transmit F w a0 x1 = some r) : zc l yWP_transmit wsWP_transmit 4 94 128 0 D G A [.ref a0, .int x1] w (zr_i r) := by
  refine zc_of (ret := some .int) [some (va_rf (some a0)), some (.int x1)] (plainFor_of_name (by decide +kernel)) rfl (Nat.le_of_ble_eq_true rfl) rfl rfl (fun X hX hr hm => ?_)
  unfold zf_WP_transmit at h
  refine zg_iload_n hX dWP_transmit_0 rfl ?_
  refine zg_iconst hX dWP_transmit_1 (1 : Int32) (by decide) ?_
  refine zg_icmp_lt (tgt := 10) hX dWP_transmit_2 rfl h (fun h => ?_) (fun h => ?_)
  · refine zg_iconst hX dWP_transmit_10 (-1 : Int32) (by decide) ?_
    cases h
    exact zg_iret hX hr (by decide) dWP_transmit_11
  · refine zg_iload_n hX dWP_transmit_5 rfl ?_
    refine zg_iconst hX dWP_transmit_6 (4 : Int32) (by decide) ?_
    refine zg_icmp_le (tgt := 12) hX dWP_transmit_7 rfl h (fun h => ?_) (fun h => ?_)
    · refine zg_aload_n (x := (some a0)) hX dWP_transmit_12 rfl ?_
      refine zg_iload_n hX dWP_transmit_13 rfl ?_
      obtain ⟨a14, e14, t14, h⟩ := zf_at_e h
      obtain ⟨w14, q14, h⟩ := zf_bv_e h
      refine zg_callV_v (mcy := 0) (w1 := w14) (st := []) hc_8 (by decide) e14 t14 [.int x1] (fun l => zm_WP_layMessages l D G A F w a14 x1 w14 q14) (zt_V zx_440 zx_442 zs_4 zx_1 zx_443) rfl hd_WP_layMessages (by decide) (by decide) (by decide) (Nat.le_of_ble_eq_true rfl) rfl rfl hX dWP_transmit_14 ?_
      refine zg_aload_n (x := (some a0)) hX dWP_transmit_17 rfl ?_
      refine zg_getR (ci := 8) (k := 10) hc_8 (by decide) (by decide) hin_8 zx_101 ft_8_10 hX dWP_transmit_18 h (fun a18 h => ?_)
      refine zg_aload_n (x := (some a0)) hX dWP_transmit_21 rfl ?_
      refine zg_getR (ci := 8) (k := 9) hc_8 (by decide) (by decide) hin_8 zx_100 ft_8_9 hX dWP_transmit_22 h (fun a22 h => ?_)
      refine zg_getR (ci := 3) (k := 0) hc_3 (by decide) (by decide) hin_3 zx_37 ft_3_0 hX dWP_transmit_25 h (fun a25 h => ?_)
      refine zg_iload_n hX dWP_transmit_28 rfl ?_
      obtain ⟨a29, e29, t29, h⟩ := zf_at_e h
      obtain ⟨w29, q29, h⟩ := zf_bv_e h
      refine zg_callV_v (mcy := 0) (w1 := w29) (st := []) hc_0 (by decide) e29 t29 [va_rf (zw_R w14 1192 a25 0), .int x1] (fun l => zm_Ai_send l D G A F w14 a29 (zw_R w14 1192 a25 0) x1 w29 q29) (zt_V zx_465 zx_466 zx_467 zx_3 zx_468) rfl hd_Ai_send (by decide) (by decide) (by decide) (Nat.le_of_ble_eq_true rfl) rfl rfl hX dWP_transmit_29 ?_
      refine zg_aload_n (x := (some a0)) hX dWP_transmit_32 rfl ?_
      refine zg_getR (ci := 8) (k := 10) hc_8 (by decide) (by decide) hin_8 zx_101 ft_8_10 hX dWP_transmit_33 h (fun a33 h => ?_)
      refine zg_getI (ci := 0) (k := 1) hc_0 (by decide) (by decide) hin_0 zx_54 ft_0_1 hX dWP_transmit_36 h (fun a36 h => ?_)
      cases h
      exact zg_iret hX hr (by decide) dWP_transmit_39
    · refine zg_iconst hX dWP_transmit_10 (-1 : Int32) (by decide) ?_
      cases h
      exact zg_iret hX hr (by decide) dWP_transmit_11
def zf_WP_unload (F : Nat) (w : zw_T) (a0 : Nat) : Option (Int32 × zw_T) :=
  zf_at w 9 (some a0) fun a1 =>
  zf_let (zw_I w 1520 a1 0) fun y4 =>
  zf_at w 9 (some a0) fun a7 => zf_let (zw_sI w 1520 a7 0 (0 : Int32)) fun w7 =>
  some (y4, w7)
set_option maxHeartbeats 4000000 in
set_option maxRecDepth 100000 in
theorem zm_WP_unload (l : Launch) (D : va_G) (G : zw_G) (A : Nat → Prop) (F : Nat) (w : zw_T) (a0 : Nat) (r : Int32 × zw_T) (h : zf_WP_unload F w a0 = some r) : zc l yWP_unload wsWP_unload 0 0 128 0 D G A [.ref a0] w (zr_i r) := by
  refine zc_of (ret := some .int) [some (va_rf (some a0)), none] (plainFor_of_name (by decide +kernel)) rfl (Nat.le_of_ble_eq_true rfl) rfl rfl (fun X hX hr hm => ?_)
  unfold zf_WP_unload at h
  refine zg_aload_n (x := (some a0)) hX dWP_unload_0 rfl ?_
  refine zg_getI (ci := 8) (k := 8) hc_8 (by decide) (by decide) hin_8 zx_99 ft_8_8 hX dWP_unload_1 h (fun a1 h => ?_)
  refine zg_istore_n hX dWP_unload_4 (Nat.le_of_ble_eq_true rfl) rfl h (fun y4 h => ?_)
  refine zg_aload_n (x := (some a0)) hX dWP_unload_5 rfl ?_
  refine zg_iconst hX dWP_unload_6 (0 : Int32) (by decide) ?_
  refine zg_putI (ci := 8) (k := 8) hc_8 (by decide) (by decide) hin_8 zx_99 ft_8_8 tyWP okWP nmWP rfl (vp_nar_int _) rfl hX dWP_unload_7 h (fun w7 h => ?_)
  refine zg_iload_n hX dWP_unload_10 rfl ?_
  cases h
  exact zg_iret hX hr (by decide) dWP_unload_11
def zf_WP_waiting (F : Nat) (w : zw_T) (a0 : Nat) : Option (Int32 × zw_T) :=
  zf_at w 9 (some a0) fun a1 =>
  some ((zw_I w 1518 a1 0), w)
set_option maxHeartbeats 4000000 in
set_option maxRecDepth 100000 in
theorem zm_WP_waiting (l : Launch) (D : va_G) (G : zw_G) (A : Nat → Prop) (F : Nat) (w : zw_T) (a0 : Nat) (r : Int32 × zw_T) (h : zf_WP_waiting F w a0 = some r) : zc l yWP_waiting wsWP_waiting 0 0 128 0 D G A [.ref a0] w (zr_i r) := by
  refine zc_of (ret := some .int) [some (va_rf (some a0))] (plainFor_of_name (by decide +kernel)) rfl (Nat.le_of_ble_eq_true rfl) rfl rfl (fun X hX hr hm => ?_)
  unfold zf_WP_waiting at h
  refine zg_aload_n (x := (some a0)) hX dWP_waiting_0 rfl ?_
  refine zg_getI (ci := 8) (k := 6) hc_8 (by decide) (by decide) hin_8 zx_97 ft_8_6 hX dWP_waiting_1 h (fun a1 h => ?_)
  cases h
  exact zg_iret hX hr (by decide) dWP_waiting_4
def zf_Mo_init (F : Nat) (w : zw_T) (a0 : Nat) : Option (zw_T) :=
  zf_na 4096 w 120 (12 : Int32) fun w7 =>
  zf_at w7 10 (some a0) fun a9 => zf_let (zw_sR w7 1577 a9 0 (some (zw_n w))) fun w9 =>
  zf_na 4096 w9 121 (12 : Int32) fun w15 =>
  zf_at w15 10 (some a0) fun a17 => zf_let (zw_sR w15 1578 a17 0 (some (zw_n w9))) fun w17 =>
  zf_na 4096 w17 122 (12 : Int32) fun w23 =>
  zf_at w23 10 (some a0) fun a25 => zf_let (zw_sR w23 1579 a25 0 (some (zw_n w17))) fun w25 =>
  zf_na 4096 w25 123 (200 : Int32) fun w32 =>
  zf_at w32 10 (some a0) fun a34 => zf_let (zw_sR w32 1581 a34 0 (some (zw_n w25))) fun w34 =>
  zf_na 4096 w34 124 (200 : Int32) fun w41 =>
  zf_at w41 10 (some a0) fun a43 => zf_let (zw_sR w41 1582 a43 0 (some (zw_n w34))) fun w43 =>
  zf_na 4096 w43 125 (200 : Int32) fun w50 =>
  zf_at w50 10 (some a0) fun a52 => zf_let (zw_sR w50 1583 a52 0 (some (zw_n w43))) fun w52 =>
  zf_na 4096 w52 126 (200 : Int32) fun w59 =>
  zf_at w59 10 (some a0) fun a61 => zf_let (zw_sR w59 1584 a61 0 (some (zw_n w52))) fun w61 =>
  zf_na 4096 w61 127 (4000 : Int32) fun w68 =>
  zf_at w68 10 (some a0) fun a70 => zf_let (zw_sR w68 1585 a70 0 (some (zw_n w61))) fun w70 =>
  zf_na 4096 w70 200 (200 : Int32) fun w77 =>
  zf_at w77 10 (some a0) fun a79 => zf_let (zw_sR w77 1586 a79 0 (some (zw_n w70))) fun w79 =>
  zf_na 4096 w79 128 (20 : Int32) fun w85 =>
  zf_at w85 10 (some a0) fun a87 => zf_let (zw_sR w85 1587 a87 0 (some (zw_n w79))) fun w87 =>
  zf_na 4096 w87 129 (64 : Int32) fun w93 =>
  zf_at w93 10 (some a0) fun a95 => zf_let (zw_sR w93 1589 a95 0 (some (zw_n w87))) fun w95 =>
  zf_na 4096 w95 201 (64 : Int32) fun w101 =>
  zf_at w101 10 (some a0) fun a103 => zf_let (zw_sR w101 1590 a103 0 (some (zw_n w95))) fun w103 =>
  zf_na 4096 w103 130 (2240 : Int32) fun w110 =>
  zf_at w110 10 (some a0) fun a112 => zf_let (zw_sR w110 1591 a112 0 (some (zw_n w103))) fun w112 =>
  zf_na 4096 w112 131 (24 : Int32) fun w118 =>
  zf_at w118 10 (some a0) fun a120 => zf_let (zw_sR w118 1596 a120 0 (some (zw_n w112))) fun w120 =>
  zf_na 4096 w120 132 (6 : Int32) fun w126 =>
  zf_at w126 10 (some a0) fun a128 => zf_let (zw_sR w126 1597 a128 0 (some (zw_n w120))) fun w128 =>
  zf_na 4096 w128 133 (6 : Int32) fun w134 =>
  zf_at w134 10 (some a0) fun a136 => zf_let (zw_sR w134 1598 a136 0 (some (zw_n w128))) fun w136 =>
  zf_na 4096 w136 134 (60 : Int32) fun w142 =>
  zf_at w142 10 (some a0) fun a144 => zf_let (zw_sR w142 1599 a144 0 (some (zw_n w136))) fun w144 =>
  zf_na 4096 w144 135 (60 : Int32) fun w150 =>
  zf_at w150 10 (some a0) fun a152 => zf_let (zw_sR w150 1600 a152 0 (some (zw_n w144))) fun w152 =>
  zf_na 4096 w152 136 (60 : Int32) fun w158 =>
  zf_at w158 10 (some a0) fun a160 => zf_let (zw_sR w158 1601 a160 0 (some (zw_n w152))) fun w160 =>
  zf_na 4096 w160 202 (60 : Int32) fun w166 =>
  zf_at w166 10 (some a0) fun a168 => zf_let (zw_sR w166 1602 a168 0 (some (zw_n w160))) fun w168 =>
  zf_na 4096 w168 137 (1320 : Int32) fun w175 =>
  zf_at w175 10 (some a0) fun a177 => zf_let (zw_sR w175 1603 a177 0 (some (zw_n w168))) fun w177 =>
  zf_na 4096 w177 300 (72 : Int32) fun w183 =>
  zf_at w183 10 (some a0) fun a185 => zf_let (zw_sR w183 1604 a185 0 (some (zw_n w177))) fun w185 =>
  zf_na 4096 w185 138 (72 : Int32) fun w191 =>
  zf_at w191 10 (some a0) fun a193 => zf_let (zw_sR w191 1605 a193 0 (some (zw_n w185))) fun w193 =>
  zf_na 4096 w193 139 (24 : Int32) fun w199 =>
  zf_at w199 10 (some a0) fun a201 => zf_let (zw_sR w199 1606 a201 0 (some (zw_n w193))) fun w201 =>
  zf_at w201 10 (some a0) fun a206 => zf_let (zw_sI w201 1608 a206 0 (-1 : Int32)) fun w206 =>
  zf_na 4096 w206 140 (160 : Int32) fun w213 =>
  zf_at w213 10 (some a0) fun a215 => zf_let (zw_sR w213 1609 a215 0 (some (zw_n w206))) fun w215 =>
  zf_na 4096 w215 141 (24 : Int32) fun w221 =>
  zf_at w221 10 (some a0) fun a223 => zf_let (zw_sR w221 1612 a223 0 (some (zw_n w215))) fun w223 =>
  some w223
set_option maxHeartbeats 4000000 in
set_option maxRecDepth 100000 in
theorem zm_Mo_init (l : Launch) (D : va_G) (G : zw_G) (A : Nat → Prop) (F : Nat) (w : zw_T) (a0 : Nat) (r : zw_T) (h : zf_Mo_init F w a0 = some r) : zc l yMo_init wsMo_init 1 20 4096 26 D G A [.ref a0] w (zr_v r) := by
  refine zc_of (ret := none) [some (va_rf (some a0))] (plainFor_of_name (by decide +kernel)) rfl (Nat.le_of_ble_eq_true rfl) rfl rfl (fun X hX hr hm => ?_)
  unfold zf_Mo_init at h
  refine zg_aload_n (x := (some a0)) hX dMo_init_0 rfl ?_
  refine zg_oinit zx_621 zx_22 zx_23 (by decide) (by decide) rfl hX dMo_init_1 ?_
  refine zg_aload_n (x := (some a0)) hX dMo_init_4 rfl ?_
  refine zg_bipush hX dMo_init_5 (12 : Int32) (by decide) ?_
  refine zg_newi (kd := 120) (bd := 4096) (by decide) (by decide) (by decide) (by decide) zx_44 (by decide) hX dMo_init_7 h (fun w7 h => ?_)
  refine zg_pfiR (ci := 9) (k := 1) hc_9 (by decide) (by decide) hin_9 zx_623 ft_9_1 tyMo okMo nmMo rfl hm rfl (zv_na _ _).1 (zv_na _ _).2 hX dMo_init_9 h (fun w9 h => ?_)
  refine zg_aload_n (x := (some a0)) hX dMo_init_12 rfl ?_
  refine zg_bipush hX dMo_init_13 (12 : Int32) (by decide) ?_
  refine zg_newi (kd := 121) (bd := 4096) (by decide) (by decide) (by decide) (by decide) zx_44 (by decide) hX dMo_init_15 h (fun w15 h => ?_)
  refine zg_pfiR (ci := 9) (k := 2) hc_9 (by decide) (by decide) hin_9 zx_624 ft_9_2 tyMo okMo nmMo rfl hm rfl (zv_na _ _).1 (zv_na _ _).2 hX dMo_init_17 h (fun w17 h => ?_)
  refine zg_aload_n (x := (some a0)) hX dMo_init_20 rfl ?_
  refine zg_bipush hX dMo_init_21 (12 : Int32) (by decide) ?_
  refine zg_newi (kd := 122) (bd := 4096) (by decide) (by decide) (by decide) (by decide) zx_44 (by decide) hX dMo_init_23 h (fun w23 h => ?_)
  refine zg_pfiR (ci := 9) (k := 3) hc_9 (by decide) (by decide) hin_9 zx_625 ft_9_3 tyMo okMo nmMo rfl hm rfl (zv_na _ _).1 (zv_na _ _).2 hX dMo_init_25 h (fun w25 h => ?_)
  refine zg_aload_n (x := (some a0)) hX dMo_init_28 rfl ?_
  refine zg_sipush hX dMo_init_29 (200 : Int32) (by decide) ?_
  refine zg_newi (kd := 123) (bd := 4096) (by decide) (by decide) (by decide) (by decide) zx_44 (by decide) hX dMo_init_32 h (fun w32 h => ?_)
  refine zg_pfiR (ci := 9) (k := 5) hc_9 (by decide) (by decide) hin_9 zx_627 ft_9_5 tyMo okMo nmMo rfl hm rfl (zv_na _ _).1 (zv_na _ _).2 hX dMo_init_34 h (fun w34 h => ?_)
  refine zg_aload_n (x := (some a0)) hX dMo_init_37 rfl ?_
  refine zg_sipush hX dMo_init_38 (200 : Int32) (by decide) ?_
  refine zg_newi (kd := 124) (bd := 4096) (by decide) (by decide) (by decide) (by decide) zx_44 (by decide) hX dMo_init_41 h (fun w41 h => ?_)
  refine zg_pfiR (ci := 9) (k := 6) hc_9 (by decide) (by decide) hin_9 zx_628 ft_9_6 tyMo okMo nmMo rfl hm rfl (zv_na _ _).1 (zv_na _ _).2 hX dMo_init_43 h (fun w43 h => ?_)
  refine zg_aload_n (x := (some a0)) hX dMo_init_46 rfl ?_
  refine zg_sipush hX dMo_init_47 (200 : Int32) (by decide) ?_
  refine zg_newi (kd := 125) (bd := 4096) (by decide) (by decide) (by decide) (by decide) zx_44 (by decide) hX dMo_init_50 h (fun w50 h => ?_)
  refine zg_pfiR (ci := 9) (k := 7) hc_9 (by decide) (by decide) hin_9 zx_629 ft_9_7 tyMo okMo nmMo rfl hm rfl (zv_na _ _).1 (zv_na _ _).2 hX dMo_init_52 h (fun w52 h => ?_)
  refine zg_aload_n (x := (some a0)) hX dMo_init_55 rfl ?_
  refine zg_sipush hX dMo_init_56 (200 : Int32) (by decide) ?_
  refine zg_newi (kd := 126) (bd := 4096) (by decide) (by decide) (by decide) (by decide) zx_44 (by decide) hX dMo_init_59 h (fun w59 h => ?_)
  refine zg_pfiR (ci := 9) (k := 8) hc_9 (by decide) (by decide) hin_9 zx_630 ft_9_8 tyMo okMo nmMo rfl hm rfl (zv_na _ _).1 (zv_na _ _).2 hX dMo_init_61 h (fun w61 h => ?_)
  refine zg_aload_n (x := (some a0)) hX dMo_init_64 rfl ?_
  refine zg_sipush hX dMo_init_65 (4000 : Int32) (by decide) ?_
  refine zg_newi (kd := 127) (bd := 4096) (by decide) (by decide) (by decide) (by decide) zx_44 (by decide) hX dMo_init_68 h (fun w68 h => ?_)
  refine zg_pfiR (ci := 9) (k := 9) hc_9 (by decide) (by decide) hin_9 zx_631 ft_9_9 tyMo okMo nmMo rfl hm rfl (zv_na _ _).1 (zv_na _ _).2 hX dMo_init_70 h (fun w70 h => ?_)
  refine zg_aload_n (x := (some a0)) hX dMo_init_73 rfl ?_
  refine zg_sipush hX dMo_init_74 (200 : Int32) (by decide) ?_
  refine zg_newz (kd := 200) (bd := 4096) (by decide) (by decide) (by decide) (by decide) zx_732 (by decide) hX dMo_init_77 h (fun w77 h => ?_)
  refine zg_pfiR (ci := 9) (k := 10) hc_9 (by decide) (by decide) hin_9 zx_632 ft_9_10 tyMo okMo nmMo rfl hm rfl (zv_na _ _).1 (zv_na _ _).2 hX dMo_init_79 h (fun w79 h => ?_)
  refine zg_aload_n (x := (some a0)) hX dMo_init_82 rfl ?_
  refine zg_bipush hX dMo_init_83 (20 : Int32) (by decide) ?_
  refine zg_newi (kd := 128) (bd := 4096) (by decide) (by decide) (by decide) (by decide) zx_44 (by decide) hX dMo_init_85 h (fun w85 h => ?_)
  refine zg_pfiR (ci := 9) (k := 11) hc_9 (by decide) (by decide) hin_9 zx_633 ft_9_11 tyMo okMo nmMo rfl hm rfl (zv_na _ _).1 (zv_na _ _).2 hX dMo_init_87 h (fun w87 h => ?_)
  refine zg_aload_n (x := (some a0)) hX dMo_init_90 rfl ?_
  refine zg_bipush hX dMo_init_91 (64 : Int32) (by decide) ?_
  refine zg_newi (kd := 129) (bd := 4096) (by decide) (by decide) (by decide) (by decide) zx_44 (by decide) hX dMo_init_93 h (fun w93 h => ?_)
  refine zg_pfiR (ci := 9) (k := 13) hc_9 (by decide) (by decide) hin_9 zx_635 ft_9_13 tyMo okMo nmMo rfl hm rfl (zv_na _ _).1 (zv_na _ _).2 hX dMo_init_95 h (fun w95 h => ?_)
  refine zg_aload_n (x := (some a0)) hX dMo_init_98 rfl ?_
  refine zg_bipush hX dMo_init_99 (64 : Int32) (by decide) ?_
  refine zg_newz (kd := 201) (bd := 4096) (by decide) (by decide) (by decide) (by decide) zx_732 (by decide) hX dMo_init_101 h (fun w101 h => ?_)
  refine zg_pfiR (ci := 9) (k := 14) hc_9 (by decide) (by decide) hin_9 zx_636 ft_9_14 tyMo okMo nmMo rfl hm rfl (zv_na _ _).1 (zv_na _ _).2 hX dMo_init_103 h (fun w103 h => ?_)
  refine zg_aload_n (x := (some a0)) hX dMo_init_106 rfl ?_
  refine zg_sipush hX dMo_init_107 (2240 : Int32) (by decide) ?_
  refine zg_newi (kd := 130) (bd := 4096) (by decide) (by decide) (by decide) (by decide) zx_44 (by decide) hX dMo_init_110 h (fun w110 h => ?_)
  refine zg_pfiR (ci := 9) (k := 15) hc_9 (by decide) (by decide) hin_9 zx_637 ft_9_15 tyMo okMo nmMo rfl hm rfl (zv_na _ _).1 (zv_na _ _).2 hX dMo_init_112 h (fun w112 h => ?_)
  refine zg_aload_n (x := (some a0)) hX dMo_init_115 rfl ?_
  refine zg_bipush hX dMo_init_116 (24 : Int32) (by decide) ?_
  refine zg_newi (kd := 131) (bd := 4096) (by decide) (by decide) (by decide) (by decide) zx_44 (by decide) hX dMo_init_118 h (fun w118 h => ?_)
  refine zg_pfiR (ci := 9) (k := 20) hc_9 (by decide) (by decide) hin_9 zx_640 ft_9_20 tyMo okMo nmMo rfl hm rfl (zv_na _ _).1 (zv_na _ _).2 hX dMo_init_120 h (fun w120 h => ?_)
  refine zg_aload_n (x := (some a0)) hX dMo_init_123 rfl ?_
  refine zg_bipush hX dMo_init_124 (6 : Int32) (by decide) ?_
  refine zg_newi (kd := 132) (bd := 4096) (by decide) (by decide) (by decide) (by decide) zx_44 (by decide) hX dMo_init_126 h (fun w126 h => ?_)
  refine zg_pfiR (ci := 9) (k := 21) hc_9 (by decide) (by decide) hin_9 zx_641 ft_9_21 tyMo okMo nmMo rfl hm rfl (zv_na _ _).1 (zv_na _ _).2 hX dMo_init_128 h (fun w128 h => ?_)
  refine zg_aload_n (x := (some a0)) hX dMo_init_131 rfl ?_
  refine zg_bipush hX dMo_init_132 (6 : Int32) (by decide) ?_
  refine zg_newi (kd := 133) (bd := 4096) (by decide) (by decide) (by decide) (by decide) zx_44 (by decide) hX dMo_init_134 h (fun w134 h => ?_)
  refine zg_pfiR (ci := 9) (k := 22) hc_9 (by decide) (by decide) hin_9 zx_642 ft_9_22 tyMo okMo nmMo rfl hm rfl (zv_na _ _).1 (zv_na _ _).2 hX dMo_init_136 h (fun w136 h => ?_)
  refine zg_aload_n (x := (some a0)) hX dMo_init_139 rfl ?_
  refine zg_bipush hX dMo_init_140 (60 : Int32) (by decide) ?_
  refine zg_newi (kd := 134) (bd := 4096) (by decide) (by decide) (by decide) (by decide) zx_44 (by decide) hX dMo_init_142 h (fun w142 h => ?_)
  refine zg_pfiR (ci := 9) (k := 23) hc_9 (by decide) (by decide) hin_9 zx_643 ft_9_23 tyMo okMo nmMo rfl hm rfl (zv_na _ _).1 (zv_na _ _).2 hX dMo_init_144 h (fun w144 h => ?_)
  refine zg_aload_n (x := (some a0)) hX dMo_init_147 rfl ?_
  refine zg_bipush hX dMo_init_148 (60 : Int32) (by decide) ?_
  refine zg_newi (kd := 135) (bd := 4096) (by decide) (by decide) (by decide) (by decide) zx_44 (by decide) hX dMo_init_150 h (fun w150 h => ?_)
  refine zg_pfiR (ci := 9) (k := 24) hc_9 (by decide) (by decide) hin_9 zx_644 ft_9_24 tyMo okMo nmMo rfl hm rfl (zv_na _ _).1 (zv_na _ _).2 hX dMo_init_152 h (fun w152 h => ?_)
  refine zg_aload_n (x := (some a0)) hX dMo_init_155 rfl ?_
  refine zg_bipush hX dMo_init_156 (60 : Int32) (by decide) ?_
  refine zg_newi (kd := 136) (bd := 4096) (by decide) (by decide) (by decide) (by decide) zx_44 (by decide) hX dMo_init_158 h (fun w158 h => ?_)
  refine zg_pfiR (ci := 9) (k := 25) hc_9 (by decide) (by decide) hin_9 zx_645 ft_9_25 tyMo okMo nmMo rfl hm rfl (zv_na _ _).1 (zv_na _ _).2 hX dMo_init_160 h (fun w160 h => ?_)
  refine zg_aload_n (x := (some a0)) hX dMo_init_163 rfl ?_
  refine zg_bipush hX dMo_init_164 (60 : Int32) (by decide) ?_
  refine zg_newz (kd := 202) (bd := 4096) (by decide) (by decide) (by decide) (by decide) zx_732 (by decide) hX dMo_init_166 h (fun w166 h => ?_)
  refine zg_pfiR (ci := 9) (k := 26) hc_9 (by decide) (by decide) hin_9 zx_646 ft_9_26 tyMo okMo nmMo rfl hm rfl (zv_na _ _).1 (zv_na _ _).2 hX dMo_init_168 h (fun w168 h => ?_)
  refine zg_aload_n (x := (some a0)) hX dMo_init_171 rfl ?_
  refine zg_sipush hX dMo_init_172 (1320 : Int32) (by decide) ?_
  refine zg_newi (kd := 137) (bd := 4096) (by decide) (by decide) (by decide) (by decide) zx_44 (by decide) hX dMo_init_175 h (fun w175 h => ?_)
  refine zg_pfiR (ci := 9) (k := 27) hc_9 (by decide) (by decide) hin_9 zx_647 ft_9_27 tyMo okMo nmMo rfl hm rfl (zv_na _ _).1 (zv_na _ _).2 hX dMo_init_177 h (fun w177 h => ?_)
  refine zg_aload_n (x := (some a0)) hX dMo_init_180 rfl ?_
  refine zg_bipush hX dMo_init_181 (72 : Int32) (by decide) ?_
  refine zg_newl (kd := 300) (bd := 4096) (by decide) (by decide) (by decide) (by decide) zx_733 (by decide) hX dMo_init_183 h (fun w183 h => ?_)
  refine zg_pfiR (ci := 9) (k := 28) hc_9 (by decide) (by decide) hin_9 zx_648 ft_9_28 tyMo okMo nmMo rfl hm rfl (zv_na _ _).1 (zv_na _ _).2 hX dMo_init_185 h (fun w185 h => ?_)
  refine zg_aload_n (x := (some a0)) hX dMo_init_188 rfl ?_
  refine zg_bipush hX dMo_init_189 (72 : Int32) (by decide) ?_
  refine zg_newi (kd := 138) (bd := 4096) (by decide) (by decide) (by decide) (by decide) zx_44 (by decide) hX dMo_init_191 h (fun w191 h => ?_)
  refine zg_pfiR (ci := 9) (k := 29) hc_9 (by decide) (by decide) hin_9 zx_649 ft_9_29 tyMo okMo nmMo rfl hm rfl (zv_na _ _).1 (zv_na _ _).2 hX dMo_init_193 h (fun w193 h => ?_)
  refine zg_aload_n (x := (some a0)) hX dMo_init_196 rfl ?_
  refine zg_bipush hX dMo_init_197 (24 : Int32) (by decide) ?_
  refine zg_newi (kd := 139) (bd := 4096) (by decide) (by decide) (by decide) (by decide) zx_44 (by decide) hX dMo_init_199 h (fun w199 h => ?_)
  refine zg_pfiR (ci := 9) (k := 30) hc_9 (by decide) (by decide) hin_9 zx_650 ft_9_30 tyMo okMo nmMo rfl hm rfl (zv_na _ _).1 (zv_na _ _).2 hX dMo_init_201 h (fun w201 h => ?_)
  refine zg_aload_n (x := (some a0)) hX dMo_init_204 rfl ?_
  refine zg_iconst hX dMo_init_205 (-1 : Int32) (by decide) ?_
  refine zg_putI (ci := 9) (k := 32) hc_9 (by decide) (by decide) hin_9 zx_652 ft_9_32 tyMo okMo nmMo rfl (vp_nar_int _) rfl hX dMo_init_206 h (fun w206 h => ?_)
  refine zg_aload_n (x := (some a0)) hX dMo_init_209 rfl ?_
  refine zg_sipush hX dMo_init_210 (160 : Int32) (by decide) ?_
  refine zg_newi (kd := 140) (bd := 4096) (by decide) (by decide) (by decide) (by decide) zx_44 (by decide) hX dMo_init_213 h (fun w213 h => ?_)
  refine zg_pfiR (ci := 9) (k := 33) hc_9 (by decide) (by decide) hin_9 zx_653 ft_9_33 tyMo okMo nmMo rfl hm rfl (zv_na _ _).1 (zv_na _ _).2 hX dMo_init_215 h (fun w215 h => ?_)
  refine zg_aload_n (x := (some a0)) hX dMo_init_218 rfl ?_
  refine zg_bipush hX dMo_init_219 (24 : Int32) (by decide) ?_
  refine zg_newi (kd := 141) (bd := 4096) (by decide) (by decide) (by decide) (by decide) zx_44 (by decide) hX dMo_init_221 h (fun w221 h => ?_)
  refine zg_pfiR (ci := 9) (k := 36) hc_9 (by decide) (by decide) hin_9 zx_656 ft_9_36 tyMo okMo nmMo rfl hm rfl (zv_na _ _).1 (zv_na _ _).2 hX dMo_init_223 h (fun w223 h => ?_)
  cases h
  exact zg_vret hX hr (by decide) dMo_init_226
