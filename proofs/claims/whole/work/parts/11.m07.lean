def zf_Mo_layAt_L43 (F : Nat) (k28 : zw_T → Nat → Int32 → Int32 → Int32 → Option (zw_T)) : Nat → zw_T → Nat → Int32 → Int32 → Int32 → Int32 → Int32 → Option (zw_T)
  | 0, _, _, _, _, _, _, _ => none
  | n + 1, w, a0, x1, x2, x3, x4, x5 =>
  if (20 : Int32) ≤ x5 then (
  zf_at w 10 (some a0) fun a78 =>
  zf_bd (zf_Mo_codeword F w x4) fun v86 w86 =>
  zf_ix w86 129 (zw_R w 1589 a78 0) (x2 + x3) fun a89 j89 => zf_let (zw_sI w86 129 a89 j89 v86) fun w89 =>
  zf_at w89 10 (some a0) fun a91 =>
  zf_ix w89 201 (zw_R w89 1590 a91 0) (x2 + x3) fun a98 j98 => zf_let (zw_sI w89 201 a98 j98 (vp_nar .boolean (1 : Int32))) fun w98 =>
  zf_let (x3 + (1 : Int32)) fun y99 =>
  k28 w98 a0 x1 x2 y99)
  else (
  zf_at w 10 (some a0) fun a65 =>
  zf_bd (zf_Mo_outBit F w a65 x1 (((20 : Int32) * (x3 - (1 : Int32))) + x5)) fun v65 w65 =>
  zf_let (((2 : Int32) * x4) + v65) fun y69 =>
  zf_let (x5 + (1 : Int32)) fun y71 =>
  zf_Mo_layAt_L43 F k28 n w65 a0 x1 x2 x3 y69 y71)
def zf_Mo_layAt_L28 (F : Nat) : Nat → zw_T → Nat → Int32 → Int32 → Int32 → Option (zw_T)
  | 0, _, _, _, _, _ => none
  | n + 1, w, a0, x1, x2, x3 =>
  zf_at w 10 (some a0) fun a31 =>
  zf_bd (zf_Mo_wordsOf F w a31 x1) fun v31 w31 =>
  if v31 ≤ x3 then (
  some w31)
  else (
  zf_let (1 : Int32) fun y38 =>
  zf_let (0 : Int32) fun y41 =>
  zf_Mo_layAt_L43 F (zf_Mo_layAt_L28 F n) F w31 a0 x1 x2 x3 y38 y41)
def zf_Mo_layAt (F : Nat) (w : zw_T) (a0 : Nat) (x1 : Int32) (x2 : Int32) : Option (zw_T) :=
  zf_at w 10 (some a0) fun a1 =>
  zf_at w 10 (some a0) fun a7 =>
  zf_ix w 123 (zw_R w 1581 a7 0) x1 fun a11 j11 =>
  zf_at w 10 (some a0) fun a12 =>
  zf_bd (zf_Mo_addressData F w a12 (zw_I w 123 a11 j11)) fun v12 w12 =>
  zf_bd (zf_Mo_codeword F w12 v12) fun v15 w15 =>
  zf_ix w15 129 (zw_R w 1589 a1 0) x2 fun a18 j18 => zf_let (zw_sI w15 129 a18 j18 v15) fun w18 =>
  zf_at w18 10 (some a0) fun a20 =>
  zf_ix w18 201 (zw_R w18 1590 a20 0) x2 fun a25 j25 => zf_let (zw_sI w18 201 a25 j25 (vp_nar .boolean (1 : Int32))) fun w25 =>
  zf_let (1 : Int32) fun y27 =>
  zf_Mo_layAt_L28 F F w25 a0 x1 x2 y27
set_option maxHeartbeats 4000000 in
set_option maxRecDepth 100000 in
theorem zm_Mo_layAt_L43 {X : zg_X} {D : va_G} {G : zw_G} {A : Nat → Prop} {F : Nat} {k28 : zw_T → Nat → Int32 → Int32 → Int32 → Option (zw_T)} {r : zw_T} (hX : zg_ok X cMo_layAt RMo 6 2 45 128 0 D G A) (hr : zg_rt X = none) (hm : zg_nm X = yMo_layAt.name) (hk28 : ∀ (w : zw_T) (a0 : Nat) (x1 : Int32) (x2 : Int32) (x3 : Int32), k28 w a0 x1 x2 x3 = some r → zg X D G A (zg_Q X D G A 128 0 (zr_v r)) 128 0 w 28 [some (va_rf (some a0)), some (.int x1), some (.int x2), some (.int x3), none, none] []) : ∀ (n : Nat) (w : zw_T) (a0 : Nat) (x1 : Int32) (x2 : Int32) (x3 : Int32) (x4 : Int32) (x5 : Int32), zf_Mo_layAt_L43 F k28 n w a0 x1 x2 x3 x4 x5 = some r → zg X D G A (zg_Q X D G A 128 0 (zr_v r)) 128 0 w 43 [some (va_rf (some a0)), some (.int x1), some (.int x2), some (.int x3), some (.int x4), some (.int x5)] [] := by
  intro n
  induction n with
  | zero =>
    intro w a0 x1 x2 x3 x4 x5 h
    unfold zf_Mo_layAt_L43 at h
    cases h
  | succ n ih =>
    intro w a0 x1 x2 x3 x4 x5 h
    rw [zf_Mo_layAt_L43] at h
    refine zg_iload hX dMo_layAt_43 rfl ?_
    refine zg_bipush hX dMo_layAt_45 (20 : Int32) (by decide) ?_
    refine zg_icmp_ge (tgt := 77) hX dMo_layAt_47 rfl h (fun h => ?_) (fun h => ?_)
    · refine zg_aload_n (x := (some a0)) hX dMo_layAt_77 rfl ?_
      refine zg_getR (ci := 9) (k := 13) hc_9 (by decide) (by decide) hin_9 zx_635 ft_9_13 hX dMo_layAt_78 h (fun a78 h => ?_)
      refine zg_iload_n hX dMo_layAt_81 rfl ?_
      refine zg_iload_n hX dMo_layAt_82 rfl ?_
      refine zg_iadd hX dMo_layAt_83 ?_
      refine zg_iload hX dMo_layAt_84 rfl ?_
      obtain ⟨v86, w86, q86, h⟩ := zf_bd_e h
      refine zg_callS_i (mcy := 0) (v := v86) (w1 := w86) (st := [.int (x2 + x3), va_rf (zw_R w 1589 a78 0)]) [.int x4] (fun l => zm_Mo_codeword l D G A F w x4 (v86, w86) q86) (zt_S zx_739 zx_740 zx_5 zx_741) rfl hd_Mo_codeword (by decide) (by decide) (by decide) (Nat.le_trans (zv_s rfl (zv_s (zv_cat _) zv_s0)) (by decide)) rfl rfl hX dMo_layAt_86 ?_
      refine zg_iast (kd := 129) (by decide) (by decide) hX dMo_layAt_89 h (fun w89 h => ?_)
      refine zg_aload_n (x := (some a0)) hX dMo_layAt_90 rfl ?_
      refine zg_getR (ci := 9) (k := 14) hc_9 (by decide) (by decide) hin_9 zx_636 ft_9_14 hX dMo_layAt_91 h (fun a91 h => ?_)
      refine zg_iload_n hX dMo_layAt_94 rfl ?_
      refine zg_iload_n hX dMo_layAt_95 rfl ?_
      refine zg_iadd hX dMo_layAt_96 ?_
      refine zg_iconst hX dMo_layAt_97 (1 : Int32) (by decide) ?_
      refine zg_zast (kd := 201) (by decide) (by decide) hX dMo_layAt_98 h (fun w98 h => ?_)
      refine zg_iinc hX dMo_layAt_99 (1 : Int32) rfl (by decide) (Nat.le_of_ble_eq_true rfl) rfl h (fun y99 h => ?_)
      refine zg_goto (tgt := 28) hX dMo_layAt_102 rfl ?_
      exact zg_sub (zl_k (zl_k (zl_k (zl_k (zl_d (zl_d zl_n)))))) (hk28 w98 a0 x1 x2 y99 h)
    · refine zg_iconst hX dMo_layAt_50 (2 : Int32) (by decide) ?_
      refine zg_iload hX dMo_layAt_51 rfl ?_
      refine zg_imul hX dMo_layAt_53 ?_
      refine zg_aload_n (x := (some a0)) hX dMo_layAt_54 rfl ?_
      refine zg_iload_n hX dMo_layAt_55 rfl ?_
      refine zg_bipush hX dMo_layAt_56 (20 : Int32) (by decide) ?_
      refine zg_iload_n hX dMo_layAt_58 rfl ?_
      refine zg_iconst hX dMo_layAt_59 (1 : Int32) (by decide) ?_
      refine zg_isub hX dMo_layAt_60 ?_
      refine zg_imul hX dMo_layAt_61 ?_
      refine zg_iload hX dMo_layAt_62 rfl ?_
      refine zg_iadd hX dMo_layAt_64 ?_
      obtain ⟨a65, e65, t65, h⟩ := zf_at_e h
      obtain ⟨v65, w65, q65, h⟩ := zf_bd_e h
      refine zg_callV_i (mcy := 0) (v := v65) (w1 := w65) (st := [.int ((2 : Int32) * x4)]) hc_9 (by decide) e65 t65 [.int x1, .int (((20 : Int32) * (x3 - (1 : Int32))) + x5)] (fun l => zm_Mo_outBit l D G A F w a65 x1 (((20 : Int32) * (x3 - (1 : Int32))) + x5) (v65, w65) q65) (zt_V zx_818 zx_820 zs_25 zx_5 zx_821) rfl hd_Mo_outBit (by decide) (by decide) (by decide) (Nat.le_of_ble_eq_true rfl) rfl rfl hX dMo_layAt_65 ?_
      refine zg_iadd hX dMo_layAt_68 ?_
      refine zg_istore hX dMo_layAt_69 (Nat.le_of_ble_eq_true rfl) rfl h (fun y69 h => ?_)
      refine zg_iinc hX dMo_layAt_71 (1 : Int32) rfl (by decide) (Nat.le_of_ble_eq_true rfl) rfl h (fun y71 h => ?_)
      refine zg_goto (tgt := 43) hX dMo_layAt_74 rfl ?_
      exact zg_sub (zl_k (zl_k (zl_k (zl_k (zl_k (zl_k zl_n)))))) (ih w65 a0 x1 x2 x3 y69 y71 h)
set_option maxHeartbeats 4000000 in
set_option maxRecDepth 100000 in
theorem zm_Mo_layAt_L28 {X : zg_X} {D : va_G} {G : zw_G} {A : Nat → Prop} {F : Nat} {r : zw_T} (hX : zg_ok X cMo_layAt RMo 6 2 45 128 0 D G A) (hr : zg_rt X = none) (hm : zg_nm X = yMo_layAt.name) : ∀ (n : Nat) (w : zw_T) (a0 : Nat) (x1 : Int32) (x2 : Int32) (x3 : Int32), zf_Mo_layAt_L28 F n w a0 x1 x2 x3 = some r → zg X D G A (zg_Q X D G A 128 0 (zr_v r)) 128 0 w 28 [some (va_rf (some a0)), some (.int x1), some (.int x2), some (.int x3), none, none] [] := by
  intro n
  induction n with
  | zero =>
    intro w a0 x1 x2 x3 h
    unfold zf_Mo_layAt_L28 at h
    cases h
  | succ n ih =>
    intro w a0 x1 x2 x3 h
    rw [zf_Mo_layAt_L28] at h
    refine zg_iload_n hX dMo_layAt_28 rfl ?_
    refine zg_aload_n (x := (some a0)) hX dMo_layAt_29 rfl ?_
    refine zg_iload_n hX dMo_layAt_30 rfl ?_
    obtain ⟨a31, e31, t31, h⟩ := zf_at_e h
    obtain ⟨v31, w31, q31, h⟩ := zf_bd_e h
    refine zg_callV_i (mcy := 0) (v := v31) (w1 := w31) (st := [.int x3]) hc_9 (by decide) e31 t31 [.int x1] (fun l => zm_Mo_wordsOf l D G A F w a31 x1 (v31, w31) q31) (zt_V zx_806 zx_808 zs_22 zx_5 zx_809) rfl hd_Mo_wordsOf (by decide) (by decide) (by decide) (Nat.le_of_ble_eq_true rfl) rfl rfl hX dMo_layAt_31 ?_
    refine zg_icmp_ge (tgt := 105) hX dMo_layAt_34 rfl h (fun h => ?_) (fun h => ?_)
    · cases h
      exact zg_vret hX hr (by decide) dMo_layAt_105
    · refine zg_iconst hX dMo_layAt_37 (1 : Int32) (by decide) ?_
      refine zg_istore hX dMo_layAt_38 (Nat.le_of_ble_eq_true rfl) rfl h (fun y38 h => ?_)
      refine zg_iconst hX dMo_layAt_40 (0 : Int32) (by decide) ?_
      refine zg_istore hX dMo_layAt_41 (Nat.le_of_ble_eq_true rfl) rfl h (fun y41 h => ?_)
      exact zg_sub (zl_k (zl_k (zl_k (zl_k (zl_k (zl_k zl_n)))))) (zm_Mo_layAt_L43 hX hr hm ih F w31 a0 x1 x2 x3 y38 y41 h)
set_option maxHeartbeats 4000000 in
set_option maxRecDepth 100000 in
theorem zm_Mo_layAt (l : Launch) (D : va_G) (G : zw_G) (A : Nat → Prop) (F : Nat) (w : zw_T) (a0 : Nat) (x1 : Int32) (x2 : Int32) (r : zw_T) (h : zf_Mo_layAt F w a0 x1 x2 = some r) : zc l yMo_layAt wsMo_layAt 2 45 128 0 D G A [.ref a0, .int x1, .int x2] w (zr_v r) := by
  refine zc_of (ret := none) [some (va_rf (some a0)), some (.int x1), some (.int x2), none, none, none] (plainFor_of_name (by decide +kernel)) rfl (Nat.le_of_ble_eq_true rfl) rfl rfl (fun X hX hr hm => ?_)
  unfold zf_Mo_layAt at h
  refine zg_aload_n (x := (some a0)) hX dMo_layAt_0 rfl ?_
  refine zg_getR (ci := 9) (k := 13) hc_9 (by decide) (by decide) hin_9 zx_635 ft_9_13 hX dMo_layAt_1 h (fun a1 h => ?_)
  refine zg_iload_n hX dMo_layAt_4 rfl ?_
  refine zg_aload_n (x := (some a0)) hX dMo_layAt_5 rfl ?_
  refine zg_aload_n (x := (some a0)) hX dMo_layAt_6 rfl ?_
  refine zg_getR (ci := 9) (k := 5) hc_9 (by decide) (by decide) hin_9 zx_627 ft_9_5 hX dMo_layAt_7 h (fun a7 h => ?_)
  refine zg_iload_n hX dMo_layAt_10 rfl ?_
  refine zg_iald (kd := 123) (by decide) (by decide) hX dMo_layAt_11 h (fun a11 j11 h => ?_)
  obtain ⟨a12, e12, t12, h⟩ := zf_at_e h
  obtain ⟨v12, w12, q12, h⟩ := zf_bd_e h
  refine zg_callV_i (mcy := 0) (v := v12) (w1 := w12) (st := [.int x2, va_rf (zw_R w 1589 a1 0)]) hc_9 (by decide) e12 t12 [.int (zw_I w 123 a11 j11)] (fun l => zm_Mo_addressData l D G A F w a12 (zw_I w 123 a11 j11) (v12, w12) q12) (zt_V zx_814 zx_816 zs_24 zx_5 zx_817) rfl hd_Mo_addressData (by decide) (by decide) (by decide) (Nat.le_trans (zv_s rfl (zv_s (zv_cat _) zv_s0)) (by decide)) rfl rfl hX dMo_layAt_12 ?_
  obtain ⟨v15, w15, q15, h⟩ := zf_bd_e h
  refine zg_callS_i (mcy := 0) (v := v15) (w1 := w15) (st := [.int x2, va_rf (zw_R w 1589 a1 0)]) [.int v12] (fun l => zm_Mo_codeword l D G A F w12 v12 (v15, w15) q15) (zt_S zx_739 zx_740 zx_5 zx_741) rfl hd_Mo_codeword (by decide) (by decide) (by decide) (Nat.le_trans (zv_s rfl (zv_s (zv_cat _) zv_s0)) (by decide)) rfl rfl hX dMo_layAt_15 ?_
  refine zg_iast (kd := 129) (by decide) (by decide) hX dMo_layAt_18 h (fun w18 h => ?_)
  refine zg_aload_n (x := (some a0)) hX dMo_layAt_19 rfl ?_
  refine zg_getR (ci := 9) (k := 14) hc_9 (by decide) (by decide) hin_9 zx_636 ft_9_14 hX dMo_layAt_20 h (fun a20 h => ?_)
  refine zg_iload_n hX dMo_layAt_23 rfl ?_
  refine zg_iconst hX dMo_layAt_24 (1 : Int32) (by decide) ?_
  refine zg_zast (kd := 201) (by decide) (by decide) hX dMo_layAt_25 h (fun w25 h => ?_)
  refine zg_iconst hX dMo_layAt_26 (1 : Int32) (by decide) ?_
  refine zg_istore_n hX dMo_layAt_27 (Nat.le_of_ble_eq_true rfl) rfl h (fun y27 h => ?_)
  exact zg_sub (zl_k (zl_k (zl_k (zl_k (zl_d (zl_d zl_n)))))) (zm_Mo_layAt_L28 hX hr hm F w25 a0 x1 x2 y27 h)
def zf_Mo_lay_L3 (F : Nat) : Nat → zw_T → Nat → Int32 → Int32 → Int32 → Option (Int32 × zw_T)
  | 0, _, _, _, _, _ => none
  | n + 1, w, a0, x1, x3, x4 =>
  if x3 ≤ x4 then (
  some ((-1 : Int32), w))
  else (
  zf_at w 10 (some a0) fun a14 =>
  zf_bd (zf_Mo_fits F w a14 x1 x4 x3) fun v14 w14 =>
  if v14 = 0 then (
  zf_let (x4 + (1 : Int32)) fun y43 =>
  zf_Mo_lay_L3 F n w14 a0 x1 x3 y43)
  else (
  zf_at w14 10 (some a0) fun a24 =>
  zf_bv (zf_Mo_layAt F w14 a24 x1 x4) fun w24 =>
  zf_at w24 10 (some a0) fun a28 =>
  zf_ix w24 200 (zw_R w24 1586 a28 0) x1 fun a33 j33 => zf_let (zw_sI w24 200 a33 j33 (vp_nar .boolean (0 : Int32))) fun w33 =>
  zf_at w33 10 (some a0) fun a38 =>
  zf_bd (zf_Mo_wordsOf F w33 a38 x1) fun v38 w38 =>
  some ((x4 + v38), w38)))
def zf_Mo_lay (F : Nat) (w : zw_T) (a0 : Nat) (x1 : Int32) (x2 : Int32) (x3 : Int32) : Option (Int32 × zw_T) :=
  zf_let x2 fun y1 =>
  zf_Mo_lay_L3 F F w a0 x1 x3 y1
set_option maxHeartbeats 4000000 in
set_option maxRecDepth 100000 in
theorem zm_Mo_lay_L3 {X : zg_X} {D : va_G} {G : zw_G} {A : Nat → Prop} {F : Nat} {r : Int32 × zw_T} (hX : zg_ok X cMo_lay RMo 5 3 70 128 0 D G A) (hr : zg_rt X = some .int) (hm : zg_nm X = yMo_lay.name) : ∀ (n : Nat) (w : zw_T) (a0 : Nat) (x1 : Int32) (x3 : Int32) (x4 : Int32), zf_Mo_lay_L3 F n w a0 x1 x3 x4 = some r → zg X D G A (zg_Q X D G A 128 0 (zr_i r)) 128 0 w 3 [some (va_rf (some a0)), some (.int x1), none, some (.int x3), some (.int x4)] [] := by
  intro n
  induction n with
  | zero =>
    intro w a0 x1 x3 x4 h
    unfold zf_Mo_lay_L3 at h
    cases h
  | succ n ih =>
    intro w a0 x1 x3 x4 h
    rw [zf_Mo_lay_L3] at h
    refine zg_iload hX dMo_lay_3 rfl ?_
    refine zg_iload_n hX dMo_lay_5 rfl ?_
    refine zg_icmp_ge (tgt := 49) hX dMo_lay_6 rfl h (fun h => ?_) (fun h => ?_)
    · refine zg_iconst hX dMo_lay_49 (-1 : Int32) (by decide) ?_
      cases h
      exact zg_iret hX hr (by decide) dMo_lay_50
    · refine zg_aload_n (x := (some a0)) hX dMo_lay_9 rfl ?_
      refine zg_iload_n hX dMo_lay_10 rfl ?_
      refine zg_iload hX dMo_lay_11 rfl ?_
      refine zg_iload_n hX dMo_lay_13 rfl ?_
      obtain ⟨a14, e14, t14, h⟩ := zf_at_e h
      obtain ⟨v14, w14, q14, h⟩ := zf_bd_e h
      refine zg_callV_i (mcy := 0) (v := v14) (w1 := w14) (st := []) hc_9 (by decide) e14 t14 [.int x1, .int x4, .int x3] (fun l => zm_Mo_fits l D G A F w a14 x1 x4 x3 (v14, w14) q14) (zt_V zx_802 zx_804 zs_21 zx_5 zx_805) rfl hd_Mo_fits (by decide) (by decide) (by decide) (Nat.le_of_ble_eq_true rfl) rfl rfl hX dMo_lay_14 ?_
      refine zg_if_eq (tgt := 43) hX dMo_lay_17 rfl h (fun h => ?_) (fun h => ?_)
      · refine zg_iinc hX dMo_lay_43 (1 : Int32) rfl (by decide) (Nat.le_of_ble_eq_true rfl) rfl h (fun y43 h => ?_)
        refine zg_goto (tgt := 3) hX dMo_lay_46 rfl ?_
        exact zg_sub (zl_k (zl_k (zl_d (zl_k (zl_k zl_n))))) (ih w14 a0 x1 x3 y43 h)
      · refine zg_aload_n (x := (some a0)) hX dMo_lay_20 rfl ?_
        refine zg_iload_n hX dMo_lay_21 rfl ?_
        refine zg_iload hX dMo_lay_22 rfl ?_
        obtain ⟨a24, e24, t24, h⟩ := zf_at_e h
        obtain ⟨w24, q24, h⟩ := zf_bv_e h
        refine zg_callV_v (mcy := 0) (w1 := w24) (st := []) hc_9 (by decide) e24 t24 [.int x1, .int x4] (fun l => zm_Mo_layAt l D G A F w14 a24 x1 x4 w24 q24) (zt_V zx_810 zx_812 zs_23 zx_5 zx_813) rfl hd_Mo_layAt (by decide) (by decide) (by decide) (Nat.le_of_ble_eq_true rfl) rfl rfl hX dMo_lay_24 ?_
        refine zg_aload_n (x := (some a0)) hX dMo_lay_27 rfl ?_
        refine zg_getR (ci := 9) (k := 10) hc_9 (by decide) (by decide) hin_9 zx_632 ft_9_10 hX dMo_lay_28 h (fun a28 h => ?_)
        refine zg_iload_n hX dMo_lay_31 rfl ?_
        refine zg_iconst hX dMo_lay_32 (0 : Int32) (by decide) ?_
        refine zg_zast (kd := 200) (by decide) (by decide) hX dMo_lay_33 h (fun w33 h => ?_)
        refine zg_iload hX dMo_lay_34 rfl ?_
        refine zg_aload_n (x := (some a0)) hX dMo_lay_36 rfl ?_
        refine zg_iload_n hX dMo_lay_37 rfl ?_
        obtain ⟨a38, e38, t38, h⟩ := zf_at_e h
        obtain ⟨v38, w38, q38, h⟩ := zf_bd_e h
        refine zg_callV_i (mcy := 0) (v := v38) (w1 := w38) (st := [.int x4]) hc_9 (by decide) e38 t38 [.int x1] (fun l => zm_Mo_wordsOf l D G A F w33 a38 x1 (v38, w38) q38) (zt_V zx_806 zx_808 zs_22 zx_5 zx_809) rfl hd_Mo_wordsOf (by decide) (by decide) (by decide) (Nat.le_of_ble_eq_true rfl) rfl rfl hX dMo_lay_38 ?_
        refine zg_iadd hX dMo_lay_41 ?_
        cases h
        exact zg_iret hX hr (by decide) dMo_lay_42
set_option maxHeartbeats 4000000 in
set_option maxRecDepth 100000 in
theorem zm_Mo_lay (l : Launch) (D : va_G) (G : zw_G) (A : Nat → Prop) (F : Nat) (w : zw_T) (a0 : Nat) (x1 : Int32) (x2 : Int32) (x3 : Int32) (r : Int32 × zw_T) (h : zf_Mo_lay F w a0 x1 x2 x3 = some r) : zc l yMo_lay wsMo_lay 3 70 128 0 D G A [.ref a0, .int x1, .int x2, .int x3] w (zr_i r) := by
  refine zc_of (ret := some .int) [some (va_rf (some a0)), some (.int x1), some (.int x2), some (.int x3), none] (plainFor_of_name (by decide +kernel)) rfl (Nat.le_of_ble_eq_true rfl) rfl rfl (fun X hX hr hm => ?_)
  unfold zf_Mo_lay at h
  refine zg_iload_n hX dMo_lay_0 rfl ?_
  refine zg_istore hX dMo_lay_1 (Nat.le_of_ble_eq_true rfl) rfl h (fun y1 h => ?_)
  exact zg_sub (zl_k (zl_k (zl_d (zl_k (zl_k zl_n))))) (zm_Mo_lay_L3 hX hr hm F w a0 x1 x3 y1 h)
def zf_Mo_load_L64 (F : Nat) : Nat → zw_T → Nat → Int64 → Int32 → Option (Int32 × zw_T)
  | 0, _, _, _, _ => none
  | n + 1, w, a0, x1, x4 =>
  if x4 < 0 then (
  zf_at w 10 (some a0) fun a107 =>
  some ((zw_I w 1588 a107 0), w))
  else (
  zf_at w 10 (some a0) fun a70 =>
  zf_at w 10 (some a0) fun a74 =>
  zf_ix w 128 (zw_R w 1587 a70 0) (zw_I w 1588 a74 0) fun a89 j89 => zf_let (zw_sI w 128 a89 j89 (Int64.toInt32 ((zi_lshr x1 ((8 : Int32) * x4)) &&& (255 : Int64)))) fun w89 =>
  zf_at w89 10 (some a0) fun a92 =>
  zf_at w89 10 (some a0) fun a97 => zf_let (zw_sI w89 1588 a97 0 ((zw_I w89 1588 a92 0) + (1 : Int32))) fun w97 =>
  zf_let (x4 + (-1 : Int32)) fun y100 =>
  zf_Mo_load_L64 F n w97 a0 x1 y100)
def zf_Mo_load_L27 (F : Nat) : Nat → zw_T → Nat → Int64 → Int32 → Int32 → Option (Int32 × zw_T)
  | 0, _, _, _, _, _ => none
  | n + 1, w, a0, x1, x3, x4 =>
  if x3 ≤ x4 then (
  zf_let (x3 - (1 : Int32)) fun y62 =>
  zf_Mo_load_L64 F F w a0 x1 y62)
  else (
  if (lg_cmp ((zi_lshr x1 ((8 : Int32) * x4)) &&& (255 : Int64)) (126 : Int64)) ≤ 0 then (
  zf_let (x4 + (1 : Int32)) fun y53 =>
  zf_Mo_load_L27 F n w a0 x1 x3 y53)
  else (
  some ((-1 : Int32), w)))
def zf_Mo_load (F : Nat) (w : zw_T) (a0 : Nat) (x1 : Int64) (x3 : Int32) : Option (Int32 × zw_T) :=
  if x3 < (1 : Int32) then (
  some ((-1 : Int32), w))
  else (
  if (8 : Int32) < x3 then (
  some ((-1 : Int32), w))
  else (
  zf_at w 10 (some a0) fun a12 =>
  if ((zw_I w 1588 a12 0) + x3) ≤ (20 : Int32) then (
  zf_let (0 : Int32) fun y25 =>
  zf_Mo_load_L27 F F w a0 x1 x3 y25)
  else (
  some ((-1 : Int32), w))))
set_option maxHeartbeats 4000000 in
set_option maxRecDepth 100000 in
theorem zm_Mo_load_L64 {X : zg_X} {D : va_G} {G : zw_G} {A : Nat → Prop} {F : Nat} {r : Int32 × zw_T} (hX : zg_ok X cMo_load RMo 5 0 0 128 0 D G A) (hr : zg_rt X = some .int) (hm : zg_nm X = yMo_load.name) : ∀ (n : Nat) (w : zw_T) (a0 : Nat) (x1 : Int64) (x4 : Int32), zf_Mo_load_L64 F n w a0 x1 x4 = some r → zg X D G A (zg_Q X D G A 128 0 (zr_i r)) 128 0 w 64 [some (va_rf (some a0)), some (.long x1), none, none, some (.int x4)] [] := by
  intro n
  induction n with
  | zero =>
    intro w a0 x1 x4 h
    unfold zf_Mo_load_L64 at h
    cases h
  | succ n ih =>
    intro w a0 x1 x4 h
    rw [zf_Mo_load_L64] at h
    refine zg_iload hX dMo_load_64 rfl ?_
    refine zg_if_lt (tgt := 106) hX dMo_load_66 rfl h (fun h => ?_) (fun h => ?_)
    · refine zg_aload_n (x := (some a0)) hX dMo_load_106 rfl ?_
      refine zg_getI (ci := 9) (k := 12) hc_9 (by decide) (by decide) hin_9 zx_634 ft_9_12 hX dMo_load_107 h (fun a107 h => ?_)
      cases h
      exact zg_iret hX hr (by decide) dMo_load_110
    · refine zg_aload_n (x := (some a0)) hX dMo_load_69 rfl ?_
      refine zg_getR (ci := 9) (k := 11) hc_9 (by decide) (by decide) hin_9 zx_633 ft_9_11 hX dMo_load_70 h (fun a70 h => ?_)
      refine zg_aload_n (x := (some a0)) hX dMo_load_73 rfl ?_
      refine zg_getI (ci := 9) (k := 12) hc_9 (by decide) (by decide) hin_9 zx_634 ft_9_12 hX dMo_load_74 h (fun a74 h => ?_)
      refine zg_lload_n hX dMo_load_77 rfl ?_
      refine zg_bipush hX dMo_load_78 (8 : Int32) (by decide) ?_
      refine zg_iload hX dMo_load_80 rfl ?_
      refine zg_imul hX dMo_load_82 ?_
      refine zg_lshr hX dMo_load_83 ?_
      refine zg_ldc2 hX dMo_load_84 (255 : Int64) zx_778 ?_
      refine zg_land hX dMo_load_87 ?_
      refine zg_l2i hX dMo_load_88 ?_
      refine zg_iast (kd := 128) (by decide) (by decide) hX dMo_load_89 h (fun w89 h => ?_)
      refine zg_aload_n (x := (some a0)) hX dMo_load_90 rfl ?_
      refine zg_dup hX dMo_load_91 rfl ?_
      refine zg_getI (ci := 9) (k := 12) hc_9 (by decide) (by decide) hin_9 zx_634 ft_9_12 hX dMo_load_92 h (fun a92 h => ?_)
      refine zg_iconst hX dMo_load_95 (1 : Int32) (by decide) ?_
      refine zg_iadd hX dMo_load_96 ?_
      refine zg_putI (ci := 9) (k := 12) hc_9 (by decide) (by decide) hin_9 zx_634 ft_9_12 tyMo okMo nmMo rfl (vp_nar_int _) rfl hX dMo_load_97 h (fun w97 h => ?_)
      refine zg_iinc hX dMo_load_100 (-1 : Int32) rfl (by decide) (Nat.le_of_ble_eq_true rfl) rfl h (fun y100 h => ?_)
      refine zg_goto (tgt := 64) hX dMo_load_103 rfl ?_
      exact zg_sub (zl_k (zl_k (zl_d (zl_d (zl_k zl_n))))) (ih w97 a0 x1 y100 h)
set_option maxHeartbeats 4000000 in
set_option maxRecDepth 100000 in
theorem zm_Mo_load_L27 {X : zg_X} {D : va_G} {G : zw_G} {A : Nat → Prop} {F : Nat} {r : Int32 × zw_T} (hX : zg_ok X cMo_load RMo 5 0 0 128 0 D G A) (hr : zg_rt X = some .int) (hm : zg_nm X = yMo_load.name) : ∀ (n : Nat) (w : zw_T) (a0 : Nat) (x1 : Int64) (x3 : Int32) (x4 : Int32), zf_Mo_load_L27 F n w a0 x1 x3 x4 = some r → zg X D G A (zg_Q X D G A 128 0 (zr_i r)) 128 0 w 27 [some (va_rf (some a0)), some (.long x1), none, some (.int x3), some (.int x4)] [] := by
  intro n
  induction n with
  | zero =>
    intro w a0 x1 x3 x4 h
    unfold zf_Mo_load_L27 at h
    cases h
  | succ n ih =>
    intro w a0 x1 x3 x4 h
    rw [zf_Mo_load_L27] at h
    refine zg_iload hX dMo_load_27 rfl ?_
    refine zg_iload_n hX dMo_load_29 rfl ?_
    refine zg_icmp_ge (tgt := 59) hX dMo_load_30 rfl h (fun h => ?_) (fun h => ?_)
    · refine zg_iload_n hX dMo_load_59 rfl ?_
      refine zg_iconst hX dMo_load_60 (1 : Int32) (by decide) ?_
      refine zg_isub hX dMo_load_61 ?_
      refine zg_istore hX dMo_load_62 (Nat.le_of_ble_eq_true rfl) rfl h (fun y62 h => ?_)
      exact zg_sub (zl_k (zl_k (zl_d (zl_d (zl_k zl_n))))) (zm_Mo_load_L64 hX hr hm F w a0 x1 y62 h)
    · refine zg_lload_n hX dMo_load_33 rfl ?_
      refine zg_bipush hX dMo_load_34 (8 : Int32) (by decide) ?_
      refine zg_iload hX dMo_load_36 rfl ?_
      refine zg_imul hX dMo_load_38 ?_
      refine zg_lshr hX dMo_load_39 ?_
      refine zg_ldc2 hX dMo_load_40 (255 : Int64) zx_778 ?_
      refine zg_land hX dMo_load_43 ?_
      refine zg_ldc2 hX dMo_load_44 (126 : Int64) zx_779 ?_
      refine zg_lcmp hX dMo_load_47 ?_
      refine zg_if_le (tgt := 53) hX dMo_load_48 rfl h (fun h => ?_) (fun h => ?_)
      · refine zg_iinc hX dMo_load_53 (1 : Int32) rfl (by decide) (Nat.le_of_ble_eq_true rfl) rfl h (fun y53 h => ?_)
        refine zg_goto (tgt := 27) hX dMo_load_56 rfl ?_
        exact zg_sub (zl_k (zl_k (zl_d (zl_k (zl_k zl_n))))) (ih w a0 x1 x3 y53 h)
      · refine zg_iconst hX dMo_load_51 (-1 : Int32) (by decide) ?_
        cases h
        exact zg_iret hX hr (by decide) dMo_load_52
set_option maxHeartbeats 4000000 in
set_option maxRecDepth 100000 in
theorem zm_Mo_load (l : Launch) (D : va_G) (G : zw_G) (A : Nat → Prop) (F : Nat) (w : zw_T) (a0 : Nat) (x1 : Int64) (x3 : Int32) (r : Int32 × zw_T) (h : zf_Mo_load F w a0 x1 x3 = some r) : zc l yMo_load wsMo_load 0 0 128 0 D G A [.ref a0, .long x1, .int x3] w (zr_i r) := by
  refine zc_of (ret := some .int) [some (va_rf (some a0)), some (.long x1), none, some (.int x3), none] (plainFor_of_name (by decide +kernel)) rfl (Nat.le_of_ble_eq_true rfl) rfl rfl (fun X hX hr hm => ?_)
  unfold zf_Mo_load at h
  refine zg_iload_n hX dMo_load_0 rfl ?_
  refine zg_iconst hX dMo_load_1 (1 : Int32) (by decide) ?_
  refine zg_icmp_lt (tgt := 22) hX dMo_load_2 rfl h (fun h => ?_) (fun h => ?_)
  · refine zg_iconst hX dMo_load_22 (-1 : Int32) (by decide) ?_
    cases h
    exact zg_iret hX hr (by decide) dMo_load_23
  · refine zg_iload_n hX dMo_load_5 rfl ?_
    refine zg_bipush hX dMo_load_6 (8 : Int32) (by decide) ?_
    refine zg_icmp_gt (tgt := 22) hX dMo_load_8 rfl h (fun h => ?_) (fun h => ?_)
    · refine zg_iconst hX dMo_load_22 (-1 : Int32) (by decide) ?_
      cases h
      exact zg_iret hX hr (by decide) dMo_load_23
    · refine zg_aload_n (x := (some a0)) hX dMo_load_11 rfl ?_
      refine zg_getI (ci := 9) (k := 12) hc_9 (by decide) (by decide) hin_9 zx_634 ft_9_12 hX dMo_load_12 h (fun a12 h => ?_)
      refine zg_iload_n hX dMo_load_15 rfl ?_
      refine zg_iadd hX dMo_load_16 ?_
      refine zg_bipush hX dMo_load_17 (20 : Int32) (by decide) ?_
      refine zg_icmp_le (tgt := 24) hX dMo_load_19 rfl h (fun h => ?_) (fun h => ?_)
      · refine zg_iconst hX dMo_load_24 (0 : Int32) (by decide) ?_
        refine zg_istore hX dMo_load_25 (Nat.le_of_ble_eq_true rfl) rfl h (fun y25 h => ?_)
        exact zg_sub (zl_k (zl_k (zl_d (zl_k (zl_k zl_n))))) (zm_Mo_load_L27 hX hr hm F w a0 x1 x3 y25 h)
      · refine zg_iconst hX dMo_load_22 (-1 : Int32) (by decide) ?_
        cases h
        exact zg_iret hX hr (by decide) dMo_load_23
def zf_Mo_message (F : Nat) (w : zw_T) (a0 : Nat) (x1 : Int32) (x2 : Int32) (x3 : Int32) : Option (Int32 × zw_T) :=
  zf_at w 10 (some a0) fun a3 =>
  zf_bd (zf_Mo_isKept F w a3 x1 x2) fun v3 w3 =>
  if v3 = 0 then (
  some ((-1 : Int32), w3))
  else (
  if x3 < 0 then (
  some ((-1 : Int32), w3))
  else (
  if x3 ≤ (3 : Int32) then (
  zf_let (((10 : Int32) * x1) + x2) fun y26 =>
  if x3 = 0 then (
  zf_at w3 10 (some a0) fun a33 =>
  zf_ix w3 134 (zw_R w3 1599 a33 0) y26 fun a38 j38 =>
  some ((zw_I w3 134 a38 j38), w3))
  else (
  if x3 = (1 : Int32) then (
  zf_at w3 10 (some a0) fun a48 =>
  zf_ix w3 135 (zw_R w3 1600 a48 0) y26 fun a53 j53 =>
  some ((zw_I w3 135 a53 j53), w3))
  else (
  if x3 = (2 : Int32) then (
  zf_at w3 10 (some a0) fun a63 =>
  zf_ix w3 136 (zw_R w3 1601 a63 0) y26 fun a68 j68 =>
  some ((zw_I w3 136 a68 j68), w3))
  else (
  zf_at w3 10 (some a0) fun a73 =>
  zf_ix w3 202 (zw_R w3 1602 a73 0) y26 fun a78 j78 =>
  if (zw_I w3 202 a78 j78) = 0 then (
  some ((0 : Int32), w3))
  else (
  some ((1 : Int32), w3))))))
  else (
  some ((-1 : Int32), w3))))
set_option maxHeartbeats 4000000 in
set_option maxRecDepth 100000 in
theorem zm_Mo_message (l : Launch) (D : va_G) (G : zw_G) (A : Nat → Prop) (F : Nat) (w : zw_T) (a0 : Nat) (x1 : Int32) (x2 : Int32) (x3 : Int32) (r : Int32 × zw_T) (h : zf_Mo_message F w a0 x1 x2 x3 = some r) : zc l yMo_message wsMo_message 2 43 128 0 D G A [.ref a0, .int x1, .int x2, .int x3] w (zr_i r) := by
  refine zc_of (ret := some .int) [some (va_rf (some a0)), some (.int x1), some (.int x2), some (.int x3), none] (plainFor_of_name (by decide +kernel)) rfl (Nat.le_of_ble_eq_true rfl) rfl rfl (fun X hX hr hm => ?_)
  unfold zf_Mo_message at h
  refine zg_aload_n (x := (some a0)) hX dMo_message_0 rfl ?_
  refine zg_iload_n hX dMo_message_1 rfl ?_
  refine zg_iload_n hX dMo_message_2 rfl ?_
  obtain ⟨a3, e3, t3, h⟩ := zf_at_e h
  obtain ⟨v3, w3, q3, h⟩ := zf_bd_e h
  refine zg_callV_i (mcy := 0) (v := v3) (w1 := w3) (st := []) hc_9 (by decide) e3 t3 [.int x1, .int x2] (fun l => zm_Mo_isKept l D G A F w a3 x1 x2 (v3, w3) q3) (zt_V zx_906 zx_908 zs_40 zx_5 zx_909) rfl hd_Mo_isKept (by decide) (by decide) (by decide) (Nat.le_of_ble_eq_true rfl) rfl rfl hX dMo_message_3 ?_
  refine zg_if_eq (tgt := 18) hX dMo_message_6 rfl h (fun h => ?_) (fun h => ?_)
  · refine zg_iconst hX dMo_message_18 (-1 : Int32) (by decide) ?_
    cases h
    exact zg_iret hX hr (by decide) dMo_message_19
  · refine zg_iload_n hX dMo_message_9 rfl ?_
    refine zg_if_lt (tgt := 18) hX dMo_message_10 rfl h (fun h => ?_) (fun h => ?_)
    · refine zg_iconst hX dMo_message_18 (-1 : Int32) (by decide) ?_
      cases h
      exact zg_iret hX hr (by decide) dMo_message_19
    · refine zg_iload_n hX dMo_message_13 rfl ?_
      refine zg_iconst hX dMo_message_14 (3 : Int32) (by decide) ?_
      refine zg_icmp_le (tgt := 20) hX dMo_message_15 rfl h (fun h => ?_) (fun h => ?_)
      · refine zg_bipush hX dMo_message_20 (10 : Int32) (by decide) ?_
        refine zg_iload_n hX dMo_message_22 rfl ?_
        refine zg_imul hX dMo_message_23 ?_
        refine zg_iload_n hX dMo_message_24 rfl ?_
        refine zg_iadd hX dMo_message_25 ?_
        refine zg_istore hX dMo_message_26 (Nat.le_of_ble_eq_true rfl) rfl h (fun y26 h => ?_)
        refine zg_iload_n hX dMo_message_28 rfl ?_
        refine zg_if_ne (tgt := 42) hX dMo_message_29 rfl h (fun h => ?_) (fun h => ?_)
        · refine zg_aload_n (x := (some a0)) hX dMo_message_32 rfl ?_
          refine zg_getR (ci := 9) (k := 23) hc_9 (by decide) (by decide) hin_9 zx_643 ft_9_23 hX dMo_message_33 h (fun a33 h => ?_)
          refine zg_iload hX dMo_message_36 rfl ?_
          refine zg_iald (kd := 134) (by decide) (by decide) hX dMo_message_38 h (fun a38 j38 h => ?_)
          refine zg_goto (tgt := 87) hX dMo_message_39 rfl ?_
          cases h
          exact zg_iret hX hr (by decide) dMo_message_87
        · refine zg_iload_n hX dMo_message_42 rfl ?_
          refine zg_iconst hX dMo_message_43 (1 : Int32) (by decide) ?_
          refine zg_icmp_ne (tgt := 57) hX dMo_message_44 rfl h (fun h => ?_) (fun h => ?_)
          · refine zg_aload_n (x := (some a0)) hX dMo_message_47 rfl ?_
            refine zg_getR (ci := 9) (k := 24) hc_9 (by decide) (by decide) hin_9 zx_644 ft_9_24 hX dMo_message_48 h (fun a48 h => ?_)
            refine zg_iload hX dMo_message_51 rfl ?_
            refine zg_iald (kd := 135) (by decide) (by decide) hX dMo_message_53 h (fun a53 j53 h => ?_)
            refine zg_goto (tgt := 87) hX dMo_message_54 rfl ?_
            cases h
            exact zg_iret hX hr (by decide) dMo_message_87
          · refine zg_iload_n hX dMo_message_57 rfl ?_
            refine zg_iconst hX dMo_message_58 (2 : Int32) (by decide) ?_
            refine zg_icmp_ne (tgt := 72) hX dMo_message_59 rfl h (fun h => ?_) (fun h => ?_)
            · refine zg_aload_n (x := (some a0)) hX dMo_message_62 rfl ?_
              refine zg_getR (ci := 9) (k := 25) hc_9 (by decide) (by decide) hin_9 zx_645 ft_9_25 hX dMo_message_63 h (fun a63 h => ?_)
              refine zg_iload hX dMo_message_66 rfl ?_
              refine zg_iald (kd := 136) (by decide) (by decide) hX dMo_message_68 h (fun a68 j68 h => ?_)
              refine zg_goto (tgt := 87) hX dMo_message_69 rfl ?_
              cases h
              exact zg_iret hX hr (by decide) dMo_message_87
            · refine zg_aload_n (x := (some a0)) hX dMo_message_72 rfl ?_
              refine zg_getR (ci := 9) (k := 26) hc_9 (by decide) (by decide) hin_9 zx_646 ft_9_26 hX dMo_message_73 h (fun a73 h => ?_)
              refine zg_iload hX dMo_message_76 rfl ?_
              refine zg_zald (kd := 202) (by decide) (by decide) hX dMo_message_78 h (fun a78 j78 h => ?_)
              refine zg_if_eq (tgt := 86) hX dMo_message_79 rfl h (fun h => ?_) (fun h => ?_)
              · refine zg_iconst hX dMo_message_86 (0 : Int32) (by decide) ?_
                cases h
                exact zg_iret hX hr (by decide) dMo_message_87
              · refine zg_iconst hX dMo_message_82 (1 : Int32) (by decide) ?_
                refine zg_goto (tgt := 87) hX dMo_message_83 rfl ?_
                cases h
                exact zg_iret hX hr (by decide) dMo_message_87
      · refine zg_iconst hX dMo_message_18 (-1 : Int32) (by decide) ?_
        cases h
        exact zg_iret hX hr (by decide) dMo_message_19
def zf_Mo_missed (F : Nat) (w : zw_T) (a0 : Nat) (x1 : Int32) (x2 : Int32) : Option (Int64 × zw_T) :=
  zf_at w 10 (some a0) fun a2 =>
  zf_bd (zf_Mo_isPager F w a2 x1) fun v2 w2 =>
  if v2 = 0 then (
  some ((0 : Int64), w2))
  else (
  zf_at w2 10 (some a0) fun a10 =>
  zf_bd (zf_Mo_isIdentity F w2 a10 x2) fun v10 w10 =>
  if v10 = 0 then (
  some ((0 : Int64), w10))
  else (
  zf_at w10 10 (some a0) fun a19 =>
  zf_bd (zf_Mo_listensTo F w10 a19 x1 x2) fun v19 w19 =>
  if v19 = 0 then (
  some ((0 : Int64), w19))
  else (
  zf_at w19 10 (some a0) fun a26 =>
  zf_ix w19 300 (zw_R w19 1604 a26 0) (((12 : Int32) * x1) + x2) fun a35 j35 =>
  some ((zw_L w19 300 a35 j35), w19))))
set_option maxHeartbeats 4000000 in
set_option maxRecDepth 100000 in
theorem zm_Mo_missed (l : Launch) (D : va_G) (G : zw_G) (A : Nat → Prop) (F : Nat) (w : zw_T) (a0 : Nat) (x1 : Int32) (x2 : Int32) (r : Int64 × zw_T) (h : zf_Mo_missed F w a0 x1 x2 = some r) : zc l yMo_missed wsMo_missed 1 24 128 0 D G A [.ref a0, .int x1, .int x2] w (zr_l r) := by
  refine zc_of (ret := some .long) [some (va_rf (some a0)), some (.int x1), some (.int x2)] (plainFor_of_name (by decide +kernel)) rfl (Nat.le_of_ble_eq_true rfl) rfl rfl (fun X hX hr hm => ?_)
  unfold zf_Mo_missed at h
  refine zg_aload_n (x := (some a0)) hX dMo_missed_0 rfl ?_
  refine zg_iload_n hX dMo_missed_1 rfl ?_
  obtain ⟨a2, e2, t2, h⟩ := zf_at_e h
  obtain ⟨v2, w2, q2, h⟩ := zf_bd_e h
  refine zg_callV_i (mcy := 0) (v := v2) (w1 := w2) (st := []) hc_9 (by decide) e2 t2 [.int x1] (fun l => zm_Mo_isPager l D G A F w a2 x1 (v2, w2) q2) (zt_V zx_762 zx_764 zs_17 zx_5 zx_765) rfl hd_Mo_isPager (by decide) (by decide) (by decide) (Nat.le_of_ble_eq_true rfl) rfl rfl hX dMo_missed_2 ?_
  refine zg_if_eq (tgt := 39) hX dMo_missed_5 rfl h (fun h => ?_) (fun h => ?_)
  · refine zg_lconst hX dMo_missed_39 (0 : Int64) (by decide) ?_
    cases h
    exact zg_lret hX hr (by decide) dMo_missed_40
  · refine zg_aload_n (x := (some a0)) hX dMo_missed_8 rfl ?_
    refine zg_iload_n hX dMo_missed_9 rfl ?_
    obtain ⟨a10, e10, t10, h⟩ := zf_at_e h
    obtain ⟨v10, w10, q10, h⟩ := zf_bd_e h
    refine zg_callV_i (mcy := 0) (v := v10) (w1 := w10) (st := []) hc_9 (by decide) e10 t10 [.int x2] (fun l => zm_Mo_isIdentity l D G A F w2 a10 x2 (v10, w10) q10) (zt_V zx_766 zx_768 zs_18 zx_5 zx_769) rfl hd_Mo_isIdentity (by decide) (by decide) (by decide) (Nat.le_of_ble_eq_true rfl) rfl rfl hX dMo_missed_10 ?_
    refine zg_if_eq (tgt := 39) hX dMo_missed_13 rfl h (fun h => ?_) (fun h => ?_)
    · refine zg_lconst hX dMo_missed_39 (0 : Int64) (by decide) ?_
      cases h
      exact zg_lret hX hr (by decide) dMo_missed_40
    · refine zg_aload_n (x := (some a0)) hX dMo_missed_16 rfl ?_
      refine zg_iload_n hX dMo_missed_17 rfl ?_
      refine zg_iload_n hX dMo_missed_18 rfl ?_
      obtain ⟨a19, e19, t19, h⟩ := zf_at_e h
      obtain ⟨v19, w19, q19, h⟩ := zf_bd_e h
      refine zg_callV_i (mcy := 0) (v := v19) (w1 := w19) (st := []) hc_9 (by decide) e19 t19 [.int x1, .int x2] (fun l => zm_Mo_listensTo l D G A F w10 a19 x1 x2 (v19, w19) q19) (zt_V zx_770 zx_772 zs_19 zx_5 zx_773) rfl hd_Mo_listensTo (by decide) (by decide) (by decide) (Nat.le_of_ble_eq_true rfl) rfl rfl hX dMo_missed_19 ?_
      refine zg_if_eq (tgt := 39) hX dMo_missed_22 rfl h (fun h => ?_) (fun h => ?_)
      · refine zg_lconst hX dMo_missed_39 (0 : Int64) (by decide) ?_
        cases h
        exact zg_lret hX hr (by decide) dMo_missed_40
      · refine zg_aload_n (x := (some a0)) hX dMo_missed_25 rfl ?_
        refine zg_getR (ci := 9) (k := 28) hc_9 (by decide) (by decide) hin_9 zx_648 ft_9_28 hX dMo_missed_26 h (fun a26 h => ?_)
        refine zg_bipush hX dMo_missed_29 (12 : Int32) (by decide) ?_
        refine zg_iload_n hX dMo_missed_31 rfl ?_
        refine zg_imul hX dMo_missed_32 ?_
        refine zg_iload_n hX dMo_missed_33 rfl ?_
        refine zg_iadd hX dMo_missed_34 ?_
        refine zg_lald (kd := 300) (by decide) (by decide) hX dMo_missed_35 h (fun a35 j35 h => ?_)
        refine zg_goto (tgt := 40) hX dMo_missed_36 rfl ?_
        cases h
        exact zg_lret hX hr (by decide) dMo_missed_40
def zf_Mo_pager (F : Nat) (w : zw_T) (a0 : Nat) : Option (Int32 × zw_T) :=
  zf_at w 10 (some a0) fun a1 =>
  if (zw_I w 1595 a1 0) = (6 : Int32) then (
  some ((-1 : Int32), w))
  else (
  zf_at w 10 (some a0) fun a13 =>
  zf_at w 10 (some a0) fun a18 => zf_let (zw_sI w 1595 a18 0 ((zw_I w 1595 a13 0) + (1 : Int32))) fun w18 =>
  zf_at w18 10 (some a0) fun a22 =>
  some (((zw_I w18 1595 a22 0) - (1 : Int32)), w18))
set_option maxHeartbeats 4000000 in
set_option maxRecDepth 100000 in
theorem zm_Mo_pager (l : Launch) (D : va_G) (G : zw_G) (A : Nat → Prop) (F : Nat) (w : zw_T) (a0 : Nat) (r : Int32 × zw_T) (h : zf_Mo_pager F w a0 = some r) : zc l yMo_pager wsMo_pager 0 0 128 0 D G A [.ref a0] w (zr_i r) := by
  refine zc_of (ret := some .int) [some (va_rf (some a0))] (plainFor_of_name (by decide +kernel)) rfl (Nat.le_of_ble_eq_true rfl) rfl rfl (fun X hX hr hm => ?_)
  unfold zf_Mo_pager at h
  refine zg_aload_n (x := (some a0)) hX dMo_pager_0 rfl ?_
  refine zg_getI (ci := 9) (k := 19) hc_9 (by decide) (by decide) hin_9 zx_639 ft_9_19 hX dMo_pager_1 h (fun a1 h => ?_)
  refine zg_bipush hX dMo_pager_4 (6 : Int32) (by decide) ?_
  refine zg_icmp_ne (tgt := 11) hX dMo_pager_6 rfl h (fun h => ?_) (fun h => ?_)
  · refine zg_iconst hX dMo_pager_9 (-1 : Int32) (by decide) ?_
    cases h
    exact zg_iret hX hr (by decide) dMo_pager_10
  · refine zg_aload_n (x := (some a0)) hX dMo_pager_11 rfl ?_
    refine zg_dup hX dMo_pager_12 rfl ?_
    refine zg_getI (ci := 9) (k := 19) hc_9 (by decide) (by decide) hin_9 zx_639 ft_9_19 hX dMo_pager_13 h (fun a13 h => ?_)
    refine zg_iconst hX dMo_pager_16 (1 : Int32) (by decide) ?_
    refine zg_iadd hX dMo_pager_17 ?_
    refine zg_putI (ci := 9) (k := 19) hc_9 (by decide) (by decide) hin_9 zx_639 ft_9_19 tyMo okMo nmMo rfl (vp_nar_int _) rfl hX dMo_pager_18 h (fun w18 h => ?_)
    refine zg_aload_n (x := (some a0)) hX dMo_pager_21 rfl ?_
    refine zg_getI (ci := 9) (k := 19) hc_9 (by decide) (by decide) hin_9 zx_639 ft_9_19 hX dMo_pager_22 h (fun a22 h => ?_)
    refine zg_iconst hX dMo_pager_25 (1 : Int32) (by decide) ?_
    refine zg_isub hX dMo_pager_26 ?_
    cases h
    exact zg_iret hX hr (by decide) dMo_pager_27
def zf_Mo_send_L3 (F : Nat) : Nat → zw_T → Nat → Int32 → Int32 → Option (zw_T)
  | 0, _, _, _, _ => none
  | n + 1, w, a0, x1, x2 =>
  if x2 < 0 then (
  some w)
  else (
  zf_at w 10 (some a0) fun a8 =>
  zf_at w 10 (some a0) fun a12 =>
  zf_ix w 130 (zw_R w 1591 a8 0) (zw_I w 1592 a12 0) fun a20 j20 => zf_let (zw_sI w 130 a20 j20 ((zi_shr x1 x2) &&& (1 : Int32))) fun w20 =>
  zf_at w20 10 (some a0) fun a23 =>
  zf_at w20 10 (some a0) fun a28 => zf_let (zw_sI w20 1592 a28 0 ((zw_I w20 1592 a23 0) + (1 : Int32))) fun w28 =>
  zf_let (x2 + (-1 : Int32)) fun y31 =>
  zf_Mo_send_L3 F n w28 a0 x1 y31)
def zf_Mo_send (F : Nat) (w : zw_T) (a0 : Nat) (x1 : Int32) : Option (zw_T) :=
  zf_let (31 : Int32) fun y2 =>
  zf_Mo_send_L3 F F w a0 x1 y2
set_option maxHeartbeats 4000000 in
set_option maxRecDepth 100000 in
theorem zm_Mo_send_L3 {X : zg_X} {D : va_G} {G : zw_G} {A : Nat → Prop} {F : Nat} {r : zw_T} (hX : zg_ok X cMo_send RMo 3 0 0 128 0 D G A) (hr : zg_rt X = none) (hm : zg_nm X = yMo_send.name) : ∀ (n : Nat) (w : zw_T) (a0 : Nat) (x1 : Int32) (x2 : Int32), zf_Mo_send_L3 F n w a0 x1 x2 = some r → zg X D G A (zg_Q X D G A 128 0 (zr_v r)) 128 0 w 3 [some (va_rf (some a0)), some (.int x1), some (.int x2)] [] := by
  intro n
  induction n with
  | zero =>
    intro w a0 x1 x2 h
    unfold zf_Mo_send_L3 at h
    cases h
  | succ n ih =>
    intro w a0 x1 x2 h
    rw [zf_Mo_send_L3] at h
    refine zg_iload_n hX dMo_send_3 rfl ?_
    refine zg_if_lt (tgt := 37) hX dMo_send_4 rfl h (fun h => ?_) (fun h => ?_)
    · cases h
      exact zg_vret hX hr (by decide) dMo_send_37
    · refine zg_aload_n (x := (some a0)) hX dMo_send_7 rfl ?_
      refine zg_getR (ci := 9) (k := 15) hc_9 (by decide) (by decide) hin_9 zx_637 ft_9_15 hX dMo_send_8 h (fun a8 h => ?_)
      refine zg_aload_n (x := (some a0)) hX dMo_send_11 rfl ?_
      refine zg_getI (ci := 9) (k := 16) hc_9 (by decide) (by decide) hin_9 zx_638 ft_9_16 hX dMo_send_12 h (fun a12 h => ?_)
      refine zg_iload_n hX dMo_send_15 rfl ?_
      refine zg_iload_n hX dMo_send_16 rfl ?_
      refine zg_ishr hX dMo_send_17 ?_
      refine zg_iconst hX dMo_send_18 (1 : Int32) (by decide) ?_
      refine zg_iand hX dMo_send_19 ?_
      refine zg_iast (kd := 130) (by decide) (by decide) hX dMo_send_20 h (fun w20 h => ?_)
      refine zg_aload_n (x := (some a0)) hX dMo_send_21 rfl ?_
      refine zg_dup hX dMo_send_22 rfl ?_
      refine zg_getI (ci := 9) (k := 16) hc_9 (by decide) (by decide) hin_9 zx_638 ft_9_16 hX dMo_send_23 h (fun a23 h => ?_)
      refine zg_iconst hX dMo_send_26 (1 : Int32) (by decide) ?_
      refine zg_iadd hX dMo_send_27 ?_
      refine zg_putI (ci := 9) (k := 16) hc_9 (by decide) (by decide) hin_9 zx_638 ft_9_16 tyMo okMo nmMo rfl (vp_nar_int _) rfl hX dMo_send_28 h (fun w28 h => ?_)
      refine zg_iinc hX dMo_send_31 (-1 : Int32) rfl (by decide) (Nat.le_of_ble_eq_true rfl) rfl h (fun y31 h => ?_)
      refine zg_goto (tgt := 3) hX dMo_send_34 rfl ?_
      exact zg_sub (zl_k (zl_k (zl_k zl_n))) (ih w28 a0 x1 y31 h)
set_option maxHeartbeats 4000000 in
set_option maxRecDepth 100000 in
theorem zm_Mo_send (l : Launch) (D : va_G) (G : zw_G) (A : Nat → Prop) (F : Nat) (w : zw_T) (a0 : Nat) (x1 : Int32) (r : zw_T) (h : zf_Mo_send F w a0 x1 = some r) : zc l yMo_send wsMo_send 0 0 128 0 D G A [.ref a0, .int x1] w (zr_v r) := by
  refine zc_of (ret := none) [some (va_rf (some a0)), some (.int x1), none] (plainFor_of_name (by decide +kernel)) rfl (Nat.le_of_ble_eq_true rfl) rfl rfl (fun X hX hr hm => ?_)
  unfold zf_Mo_send at h
  refine zg_bipush hX dMo_send_0 (31 : Int32) (by decide) ?_
  refine zg_istore_n hX dMo_send_2 (Nat.le_of_ble_eq_true rfl) rfl h (fun y2 h => ?_)
  exact zg_sub (zl_k (zl_k (zl_k zl_n))) (zm_Mo_send_L3 hX hr hm F w a0 x1 y2 h)
def zf_Mo_sign (F : Nat) (w : zw_T) (a0 : Nat) (x1 : Int32) (x2 : Int32) (x3 : Int32) : Option (Int32 × zw_T) :=
  zf_at w 10 (some a0) fun a3 =>
  zf_bd (zf_Mo_isKept F w a3 x1 x2) fun v3 w3 =>
  if v3 = 0 then (
  some ((-1 : Int32), w3))
  else (
  if x3 < 0 then (
  some ((-1 : Int32), w3))
  else (
  zf_at w3 10 (some a0) fun a15 =>
  zf_ix w3 136 (zw_R w3 1601 a15 0) (((10 : Int32) * x1) + x2) fun a24 j24 =>
  if x3 < (zw_I w3 136 a24 j24) then (
  zf_at w3 10 (some a0) fun a31 =>
  zf_ix w3 137 (zw_R w3 1603 a31 0) (((22 : Int32) * (((10 : Int32) * x1) + x2)) + x3) fun a45 j45 =>
  some ((zw_I w3 137 a45 j45), w3))
  else (
  some ((-1 : Int32), w3))))
set_option maxHeartbeats 4000000 in
set_option maxRecDepth 100000 in
theorem zm_Mo_sign (l : Launch) (D : va_G) (G : zw_G) (A : Nat → Prop) (F : Nat) (w : zw_T) (a0 : Nat) (x1 : Int32) (x2 : Int32) (x3 : Int32) (r : Int32 × zw_T) (h : zf_Mo_sign F w a0 x1 x2 x3 = some r) : zc l yMo_sign wsMo_sign 2 43 128 0 D G A [.ref a0, .int x1, .int x2, .int x3] w (zr_i r) := by
  refine zc_of (ret := some .int) [some (va_rf (some a0)), some (.int x1), some (.int x2), some (.int x3)] (plainFor_of_name (by decide +kernel)) rfl (Nat.le_of_ble_eq_true rfl) rfl rfl (fun X hX hr hm => ?_)
  unfold zf_Mo_sign at h
  refine zg_aload_n (x := (some a0)) hX dMo_sign_0 rfl ?_
  refine zg_iload_n hX dMo_sign_1 rfl ?_
  refine zg_iload_n hX dMo_sign_2 rfl ?_
  obtain ⟨a3, e3, t3, h⟩ := zf_at_e h
  obtain ⟨v3, w3, q3, h⟩ := zf_bd_e h
  refine zg_callV_i (mcy := 0) (v := v3) (w1 := w3) (st := []) hc_9 (by decide) e3 t3 [.int x1, .int x2] (fun l => zm_Mo_isKept l D G A F w a3 x1 x2 (v3, w3) q3) (zt_V zx_906 zx_908 zs_40 zx_5 zx_909) rfl hd_Mo_isKept (by decide) (by decide) (by decide) (Nat.le_of_ble_eq_true rfl) rfl rfl hX dMo_sign_3 ?_
  refine zg_if_eq (tgt := 28) hX dMo_sign_6 rfl h (fun h => ?_) (fun h => ?_)
  · refine zg_iconst hX dMo_sign_28 (-1 : Int32) (by decide) ?_
    cases h
    exact zg_iret hX hr (by decide) dMo_sign_29
  · refine zg_iload_n hX dMo_sign_9 rfl ?_
    refine zg_if_lt (tgt := 28) hX dMo_sign_10 rfl h (fun h => ?_) (fun h => ?_)
    · refine zg_iconst hX dMo_sign_28 (-1 : Int32) (by decide) ?_
      cases h
      exact zg_iret hX hr (by decide) dMo_sign_29
    · refine zg_iload_n hX dMo_sign_13 rfl ?_
      refine zg_aload_n (x := (some a0)) hX dMo_sign_14 rfl ?_
      refine zg_getR (ci := 9) (k := 25) hc_9 (by decide) (by decide) hin_9 zx_645 ft_9_25 hX dMo_sign_15 h (fun a15 h => ?_)
      refine zg_bipush hX dMo_sign_18 (10 : Int32) (by decide) ?_
      refine zg_iload_n hX dMo_sign_20 rfl ?_
      refine zg_imul hX dMo_sign_21 ?_
      refine zg_iload_n hX dMo_sign_22 rfl ?_
      refine zg_iadd hX dMo_sign_23 ?_
      refine zg_iald (kd := 136) (by decide) (by decide) hX dMo_sign_24 h (fun a24 j24 h => ?_)
      refine zg_icmp_lt (tgt := 30) hX dMo_sign_25 rfl h (fun h => ?_) (fun h => ?_)
      · refine zg_aload_n (x := (some a0)) hX dMo_sign_30 rfl ?_
        refine zg_getR (ci := 9) (k := 27) hc_9 (by decide) (by decide) hin_9 zx_647 ft_9_27 hX dMo_sign_31 h (fun a31 h => ?_)
        refine zg_bipush hX dMo_sign_34 (22 : Int32) (by decide) ?_
        refine zg_bipush hX dMo_sign_36 (10 : Int32) (by decide) ?_
        refine zg_iload_n hX dMo_sign_38 rfl ?_
        refine zg_imul hX dMo_sign_39 ?_
        refine zg_iload_n hX dMo_sign_40 rfl ?_
        refine zg_iadd hX dMo_sign_41 ?_
        refine zg_imul hX dMo_sign_42 ?_
        refine zg_iload_n hX dMo_sign_43 rfl ?_
        refine zg_iadd hX dMo_sign_44 ?_
        refine zg_iald (kd := 137) (by decide) (by decide) hX dMo_sign_45 h (fun a45 j45 h => ?_)
        cases h
        exact zg_iret hX hr (by decide) dMo_sign_46
      · refine zg_iconst hX dMo_sign_28 (-1 : Int32) (by decide) ?_
        cases h
        exact zg_iret hX hr (by decide) dMo_sign_29
def zf_Mo_transmit_j194 (F : Nat) (k173 : zw_T → Nat → Int32 → Int32 → Option (Int32 × zw_T)) (w : zw_T) (a0 : Nat) (x1 : Int32) (x2 : Int32) : Option (Int32 × zw_T) :=
  zf_at w 10 (some a0) fun a196 =>
  zf_ix w 129 (zw_R w 1589 a196 0) x2 fun a200 j200 =>
  zf_at w 10 (some a0) fun a201 =>
  zf_bv (zf_Mo_send F w a201 (zw_I w 129 a200 j200)) fun w201 =>
  zf_let (x2 + (1 : Int32)) fun y204 =>
  k173 w201 a0 x1 y204
def zf_Mo_transmit_L173 (F : Nat) : Nat → zw_T → Nat → Int32 → Int32 → Option (Int32 × zw_T)
  | 0, _, _, _, _ => none
  | n + 1, w, a0, x1, x2 =>
  if ((16 : Int32) * x1) ≤ x2 then (
  zf_at w 10 (some a0) fun a211 =>
  some ((zw_I w 1592 a211 0), w))
  else (
  if (zi_rem x2 (16 : Int32)) = 0 then (
  zf_at w 10 (some a0) fun a191 =>
  zf_bv (zf_Mo_send F w a191 (2094142936 : Int32)) fun w191 =>
  zf_Mo_transmit_j194 F (zf_Mo_transmit_L173 F n) w191 a0 x1 x2)
  else (
  zf_Mo_transmit_j194 F (zf_Mo_transmit_L173 F n) w a0 x1 x2))
def zf_Mo_transmit_j142 (F : Nat) (k64 : zw_T → Nat → Int32 → Int32 → Option (Int32 × zw_T)) (k70 : zw_T → Nat → Int32 → Int32 → Int32 → Option (Int32 × zw_T)) (w : zw_T) (a0 : Nat) (x1 : Int32) (x2 : Int32) (x3 : Int32) : Option (Int32 × zw_T) :=
  zf_let (x3 + (1 : Int32)) fun y142 =>
  k70 w a0 x1 x2 y142
def zf_Mo_transmit_L70 (F : Nat) (k64 : zw_T → Nat → Int32 → Int32 → Option (Int32 × zw_T)) : Nat → zw_T → Nat → Int32 → Int32 → Int32 → Option (Int32 × zw_T)
  | 0, _, _, _, _, _ => none
  | n + 1, w, a0, x1, x2, x3 =>
  zf_at w 10 (some a0) fun a72 =>
  if (zw_I w 1580 a72 0) ≤ x3 then (
  zf_let (x2 + (-1 : Int32)) fun y148 =>
  k64 w a0 x1 y148)
  else (
  zf_at w 10 (some a0) fun a79 =>
  zf_ix w 200 (zw_R w 1586 a79 0) x3 fun a83 j83 =>
  if (zw_I w 200 a83 j83) = 0 then (
  zf_Mo_transmit_j142 F k64 (zf_Mo_transmit_L70 F k64 n) w a0 x1 x2 x3)
  else (
  zf_at w 10 (some a0) fun a88 =>
  zf_ix w 124 (zw_R w 1582 a88 0) x3 fun a92 j92 =>
  if (zw_I w 124 a92 j92) = x2 then (
  zf_at w 10 (some a0) fun a98 =>
  zf_at w 10 (some a0) fun a102 =>
  zf_ix w 123 (zw_R w 1581 a102 0) x3 fun a106 j106 =>
  zf_ix w 141 (zw_R w 1612 a98 0) (zw_I w 123 a106 j106) fun a107 j107 =>
  if (zw_I w 141 a107 j107) < 0 then (
  zf_Mo_transmit_j142 F k64 (zf_Mo_transmit_L70 F k64 n) w a0 x1 x2 x3)
  else (
  zf_at w 10 (some a0) fun a112 =>
  zf_at w 10 (some a0) fun a116 =>
  zf_ix w 123 (zw_R w 1581 a116 0) x3 fun a120 j120 =>
  zf_at w 10 (some a0) fun a124 =>
  zf_at w 10 (some a0) fun a128 =>
  zf_ix w 123 (zw_R w 1581 a128 0) x3 fun a132 j132 =>
  zf_ix w 141 (zw_R w 1612 a124 0) (zw_I w 123 a132 j132) fun a133 j133 =>
  zf_at w 10 (some a0) fun a138 =>
  zf_bd (zf_Mo_lay F w a138 x3 (zw_I w 141 a133 j133) ((16 : Int32) * x1)) fun v138 w138 =>
  zf_ix w138 141 (zw_R w 1612 a112 0) (zw_I w 123 a120 j120) fun a141 j141 => zf_let (zw_sI w138 141 a141 j141 v138) fun w141 =>
  zf_Mo_transmit_j142 F k64 (zf_Mo_transmit_L70 F k64 n) w141 a0 x1 x2 x3))
  else (
  zf_Mo_transmit_j142 F k64 (zf_Mo_transmit_L70 F k64 n) w a0 x1 x2 x3)))
def zf_Mo_transmit_L64 (F : Nat) : Nat → zw_T → Nat → Int32 → Int32 → Option (Int32 × zw_T)
  | 0, _, _, _, _ => none
  | n + 1, w, a0, x1, x2 =>
  if x2 < 0 then (
  zf_at w 10 (some a0) fun a156 => zf_let (zw_sI w 1592 a156 0 (0 : Int32)) fun w156 =>
  zf_at w156 10 (some a0) fun a162 =>
  zf_bv (zf_Mo_send F w156 a162 (-1431655766 : Int32)) fun w162 =>
  zf_at w162 10 (some a0) fun a168 =>
  zf_bv (zf_Mo_send F w162 a168 (-1431655766 : Int32)) fun w168 =>
  zf_let (0 : Int32) fun y172 =>
  zf_Mo_transmit_L173 F F w168 a0 x1 y172)
  else (
  zf_let (0 : Int32) fun y69 =>
  zf_Mo_transmit_L70 F (zf_Mo_transmit_L64 F n) F w a0 x1 x2 y69)
def zf_Mo_transmit_L43 (F : Nat) : Nat → zw_T → Nat → Int32 → Int32 → Option (Int32 × zw_T)
  | 0, _, _, _, _ => none
  | n + 1, w, a0, x1, x2 =>
  if (12 : Int32) ≤ x2 then (
  zf_let (3 : Int32) fun y63 =>
  zf_Mo_transmit_L64 F F w a0 x1 y63)
  else (
  zf_at w 10 (some a0) fun a50 =>
  zf_ix w 141 (zw_R w 1612 a50 0) x2 fun a55 j55 => zf_let (zw_sI w 141 a55 j55 (0 : Int32)) fun w55 =>
  zf_let (x2 + (1 : Int32)) fun y56 =>
  zf_Mo_transmit_L43 F n w55 a0 x1 y56)
def zf_Mo_transmit_L14 (F : Nat) : Nat → zw_T → Nat → Int32 → Int32 → Option (Int32 × zw_T)
  | 0, _, _, _, _ => none
  | n + 1, w, a0, x1, x2 =>
  if (64 : Int32) ≤ x2 then (
  zf_let (0 : Int32) fun y42 =>
  zf_Mo_transmit_L43 F F w a0 x1 y42)
  else (
  zf_at w 10 (some a0) fun a21 =>
  zf_ix w 201 (zw_R w 1590 a21 0) x2 fun a26 j26 => zf_let (zw_sI w 201 a26 j26 (vp_nar .boolean (0 : Int32))) fun w26 =>
  zf_at w26 10 (some a0) fun a28 =>
  zf_ix w26 129 (zw_R w26 1589 a28 0) x2 fun a34 j34 => zf_let (zw_sI w26 129 a34 j34 (2055848343 : Int32)) fun w34 =>
  zf_let (x2 + (1 : Int32)) fun y35 =>
  zf_Mo_transmit_L14 F n w34 a0 x1 y35)
def zf_Mo_transmit (F : Nat) (w : zw_T) (a0 : Nat) (x1 : Int32) : Option (Int32 × zw_T) :=
  if x1 < (1 : Int32) then (
  some ((-1 : Int32), w))
  else (
  if x1 ≤ (4 : Int32) then (
  zf_let (0 : Int32) fun y13 =>
  zf_Mo_transmit_L14 F F w a0 x1 y13)
  else (
  some ((-1 : Int32), w)))
set_option maxHeartbeats 4000000 in
set_option maxRecDepth 100000 in
theorem zm_Mo_transmit_j194 {X : zg_X} {D : va_G} {G : zw_G} {A : Nat → Prop} {F : Nat} {k173 : zw_T → Nat → Int32 → Int32 → Option (Int32 × zw_T)} {r : Int32 × zw_T} (hX : zg_ok X cMo_transmit RMo 4 4 94 128 0 D G A) (hr : zg_rt X = some .int) (hm : zg_nm X = yMo_transmit.name) (hk173 : ∀ (w : zw_T) (a0 : Nat) (x1 : Int32) (x2 : Int32), k173 w a0 x1 x2 = some r → zg X D G A (zg_Q X D G A 128 0 (zr_i r)) 128 0 w 173 [some (va_rf (some a0)), some (.int x1), some (.int x2), none] []) (w : zw_T) (a0 : Nat) (x1 : Int32) (x2 : Int32) (h : zf_Mo_transmit_j194 F k173 w a0 x1 x2 = some r) : zg X D G A (zg_Q X D G A 128 0 (zr_i r)) 128 0 w 194 [some (va_rf (some a0)), some (.int x1), some (.int x2), none] [] := by
  unfold zf_Mo_transmit_j194 at h
  refine zg_aload_n (x := (some a0)) hX dMo_transmit_194 rfl ?_
  refine zg_aload_n (x := (some a0)) hX dMo_transmit_195 rfl ?_
  refine zg_getR (ci := 9) (k := 13) hc_9 (by decide) (by decide) hin_9 zx_635 ft_9_13 hX dMo_transmit_196 h (fun a196 h => ?_)
  refine zg_iload_n hX dMo_transmit_199 rfl ?_
  refine zg_iald (kd := 129) (by decide) (by decide) hX dMo_transmit_200 h (fun a200 j200 h => ?_)
  obtain ⟨a201, e201, t201, h⟩ := zf_at_e h
  obtain ⟨w201, q201, h⟩ := zf_bv_e h
  refine zg_callV_v (mcy := 0) (w1 := w201) (st := []) hc_9 (by decide) e201 t201 [.int (zw_I w 129 a200 j200)] (fun l => zm_Mo_send l D G A F w a201 (zw_I w 129 a200 j200) w201 q201) (zt_V zx_827 zx_829 zs_27 zx_5 zx_830) rfl hd_Mo_send (by decide) (by decide) (by decide) (Nat.le_of_ble_eq_true rfl) rfl rfl hX dMo_transmit_201 ?_
  refine zg_iinc hX dMo_transmit_204 (1 : Int32) rfl (by decide) (Nat.le_of_ble_eq_true rfl) rfl h (fun y204 h => ?_)
  refine zg_goto (tgt := 173) hX dMo_transmit_207 rfl ?_
  exact zg_sub (zl_k (zl_k (zl_k (zl_d zl_n)))) (hk173 w201 a0 x1 y204 h)
set_option maxHeartbeats 4000000 in
set_option maxRecDepth 100000 in
theorem zm_Mo_transmit_L173 {X : zg_X} {D : va_G} {G : zw_G} {A : Nat → Prop} {F : Nat} {r : Int32 × zw_T} (hX : zg_ok X cMo_transmit RMo 4 4 94 128 0 D G A) (hr : zg_rt X = some .int) (hm : zg_nm X = yMo_transmit.name) : ∀ (n : Nat) (w : zw_T) (a0 : Nat) (x1 : Int32) (x2 : Int32), zf_Mo_transmit_L173 F n w a0 x1 x2 = some r → zg X D G A (zg_Q X D G A 128 0 (zr_i r)) 128 0 w 173 [some (va_rf (some a0)), some (.int x1), some (.int x2), none] [] := by
  intro n
  induction n with
  | zero =>
    intro w a0 x1 x2 h
    unfold zf_Mo_transmit_L173 at h
    cases h
  | succ n ih =>
    intro w a0 x1 x2 h
    rw [zf_Mo_transmit_L173] at h
    refine zg_iload_n hX dMo_transmit_173 rfl ?_
    refine zg_bipush hX dMo_transmit_174 (16 : Int32) (by decide) ?_
    refine zg_iload_n hX dMo_transmit_176 rfl ?_
    refine zg_imul hX dMo_transmit_177 ?_
    refine zg_icmp_ge (tgt := 210) hX dMo_transmit_178 rfl h (fun h => ?_) (fun h => ?_)
    · refine zg_aload_n (x := (some a0)) hX dMo_transmit_210 rfl ?_
      refine zg_getI (ci := 9) (k := 16) hc_9 (by decide) (by decide) hin_9 zx_638 ft_9_16 hX dMo_transmit_211 h (fun a211 h => ?_)
      cases h
      exact zg_iret hX hr (by decide) dMo_transmit_214
    · refine zg_iload_n hX dMo_transmit_181 rfl ?_
      refine zg_bipush hX dMo_transmit_182 (16 : Int32) (by decide) ?_
      refine zg_irem hX dMo_transmit_184 (by decide) ?_
      refine zg_if_ne (tgt := 194) hX dMo_transmit_185 rfl h (fun h => ?_) (fun h => ?_)
      · refine zg_aload_n (x := (some a0)) hX dMo_transmit_188 rfl ?_
        refine zg_ldc hX dMo_transmit_189 (2094142936 : Int32) zx_831 ?_
        obtain ⟨a191, e191, t191, h⟩ := zf_at_e h
        obtain ⟨w191, q191, h⟩ := zf_bv_e h
        refine zg_callV_v (mcy := 0) (w1 := w191) (st := []) hc_9 (by decide) e191 t191 [.int (2094142936 : Int32)] (fun l => zm_Mo_send l D G A F w a191 (2094142936 : Int32) w191 q191) (zt_V zx_827 zx_829 zs_27 zx_5 zx_830) rfl hd_Mo_send (by decide) (by decide) (by decide) (Nat.le_of_ble_eq_true rfl) rfl rfl hX dMo_transmit_191 ?_
        exact zg_sub (zl_k (zl_k (zl_k (zl_d zl_n)))) (zm_Mo_transmit_j194 hX hr hm ih w191 a0 x1 x2 h)
      · exact zg_sub (zl_k (zl_k (zl_k (zl_d zl_n)))) (zm_Mo_transmit_j194 hX hr hm ih w a0 x1 x2 h)
set_option maxHeartbeats 4000000 in
set_option maxRecDepth 100000 in
theorem zm_Mo_transmit_j142 {X : zg_X} {D : va_G} {G : zw_G} {A : Nat → Prop} {F : Nat} {k64 : zw_T → Nat → Int32 → Int32 → Option (Int32 × zw_T)} {k70 : zw_T → Nat → Int32 → Int32 → Int32 → Option (Int32 × zw_T)} {r : Int32 × zw_T} (hX : zg_ok X cMo_transmit RMo 4 4 94 128 0 D G A) (hr : zg_rt X = some .int) (hm : zg_nm X = yMo_transmit.name) (hk64 : ∀ (w : zw_T) (a0 : Nat) (x1 : Int32) (x2 : Int32), k64 w a0 x1 x2 = some r → zg X D G A (zg_Q X D G A 128 0 (zr_i r)) 128 0 w 64 [some (va_rf (some a0)), some (.int x1), some (.int x2), none] []) (hk70 : ∀ (w : zw_T) (a0 : Nat) (x1 : Int32) (x2 : Int32) (x3 : Int32), k70 w a0 x1 x2 x3 = some r → zg X D G A (zg_Q X D G A 128 0 (zr_i r)) 128 0 w 70 [some (va_rf (some a0)), some (.int x1), some (.int x2), some (.int x3)] []) (w : zw_T) (a0 : Nat) (x1 : Int32) (x2 : Int32) (x3 : Int32) (h : zf_Mo_transmit_j142 F k64 k70 w a0 x1 x2 x3 = some r) : zg X D G A (zg_Q X D G A 128 0 (zr_i r)) 128 0 w 142 [some (va_rf (some a0)), some (.int x1), some (.int x2), some (.int x3)] [] := by
  unfold zf_Mo_transmit_j142 at h
  refine zg_iinc hX dMo_transmit_142 (1 : Int32) rfl (by decide) (Nat.le_of_ble_eq_true rfl) rfl h (fun y142 h => ?_)
  refine zg_goto (tgt := 70) hX dMo_transmit_145 rfl ?_
  exact zg_sub (zl_k (zl_k (zl_k (zl_k zl_n)))) (hk70 w a0 x1 x2 y142 h)
set_option maxHeartbeats 4000000 in
set_option maxRecDepth 100000 in
theorem zm_Mo_transmit_L70 {X : zg_X} {D : va_G} {G : zw_G} {A : Nat → Prop} {F : Nat} {k64 : zw_T → Nat → Int32 → Int32 → Option (Int32 × zw_T)} {r : Int32 × zw_T} (hX : zg_ok X cMo_transmit RMo 4 4 94 128 0 D G A) (hr : zg_rt X = some .int) (hm : zg_nm X = yMo_transmit.name) (hk64 : ∀ (w : zw_T) (a0 : Nat) (x1 : Int32) (x2 : Int32), k64 w a0 x1 x2 = some r → zg X D G A (zg_Q X D G A 128 0 (zr_i r)) 128 0 w 64 [some (va_rf (some a0)), some (.int x1), some (.int x2), none] []) : ∀ (n : Nat) (w : zw_T) (a0 : Nat) (x1 : Int32) (x2 : Int32) (x3 : Int32), zf_Mo_transmit_L70 F k64 n w a0 x1 x2 x3 = some r → zg X D G A (zg_Q X D G A 128 0 (zr_i r)) 128 0 w 70 [some (va_rf (some a0)), some (.int x1), some (.int x2), some (.int x3)] [] := by
  intro n
  induction n with
  | zero =>
    intro w a0 x1 x2 x3 h
    unfold zf_Mo_transmit_L70 at h
    cases h
  | succ n ih =>
    intro w a0 x1 x2 x3 h
    rw [zf_Mo_transmit_L70] at h
    refine zg_iload_n hX dMo_transmit_70 rfl ?_
    refine zg_aload_n (x := (some a0)) hX dMo_transmit_71 rfl ?_
    refine zg_getI (ci := 9) (k := 4) hc_9 (by decide) (by decide) hin_9 zx_626 ft_9_4 hX dMo_transmit_72 h (fun a72 h => ?_)
    refine zg_icmp_ge (tgt := 148) hX dMo_transmit_75 rfl h (fun h => ?_) (fun h => ?_)
    · refine zg_iinc hX dMo_transmit_148 (-1 : Int32) rfl (by decide) (Nat.le_of_ble_eq_true rfl) rfl h (fun y148 h => ?_)
      refine zg_goto (tgt := 64) hX dMo_transmit_151 rfl ?_
      exact zg_sub (zl_k (zl_k (zl_k (zl_d zl_n)))) (hk64 w a0 x1 y148 h)
    · refine zg_aload_n (x := (some a0)) hX dMo_transmit_78 rfl ?_
      refine zg_getR (ci := 9) (k := 10) hc_9 (by decide) (by decide) hin_9 zx_632 ft_9_10 hX dMo_transmit_79 h (fun a79 h => ?_)
      refine zg_iload_n hX dMo_transmit_82 rfl ?_
      refine zg_zald (kd := 200) (by decide) (by decide) hX dMo_transmit_83 h (fun a83 j83 h => ?_)
      refine zg_if_eq (tgt := 142) hX dMo_transmit_84 rfl h (fun h => ?_) (fun h => ?_)
      · exact zg_sub (zl_k (zl_k (zl_k (zl_k zl_n)))) (zm_Mo_transmit_j142 hX hr hm hk64 ih w a0 x1 x2 x3 h)
      · refine zg_aload_n (x := (some a0)) hX dMo_transmit_87 rfl ?_
        refine zg_getR (ci := 9) (k := 6) hc_9 (by decide) (by decide) hin_9 zx_628 ft_9_6 hX dMo_transmit_88 h (fun a88 h => ?_)
        refine zg_iload_n hX dMo_transmit_91 rfl ?_
        refine zg_iald (kd := 124) (by decide) (by decide) hX dMo_transmit_92 h (fun a92 j92 h => ?_)
        refine zg_iload_n hX dMo_transmit_93 rfl ?_
        refine zg_icmp_ne (tgt := 142) hX dMo_transmit_94 rfl h (fun h => ?_) (fun h => ?_)
        · refine zg_aload_n (x := (some a0)) hX dMo_transmit_97 rfl ?_
          refine zg_getR (ci := 9) (k := 36) hc_9 (by decide) (by decide) hin_9 zx_656 ft_9_36 hX dMo_transmit_98 h (fun a98 h => ?_)
          refine zg_aload_n (x := (some a0)) hX dMo_transmit_101 rfl ?_
          refine zg_getR (ci := 9) (k := 5) hc_9 (by decide) (by decide) hin_9 zx_627 ft_9_5 hX dMo_transmit_102 h (fun a102 h => ?_)
          refine zg_iload_n hX dMo_transmit_105 rfl ?_
          refine zg_iald (kd := 123) (by decide) (by decide) hX dMo_transmit_106 h (fun a106 j106 h => ?_)
          refine zg_iald (kd := 141) (by decide) (by decide) hX dMo_transmit_107 h (fun a107 j107 h => ?_)
          refine zg_if_lt (tgt := 142) hX dMo_transmit_108 rfl h (fun h => ?_) (fun h => ?_)
          · exact zg_sub (zl_k (zl_k (zl_k (zl_k zl_n)))) (zm_Mo_transmit_j142 hX hr hm hk64 ih w a0 x1 x2 x3 h)
          · refine zg_aload_n (x := (some a0)) hX dMo_transmit_111 rfl ?_
            refine zg_getR (ci := 9) (k := 36) hc_9 (by decide) (by decide) hin_9 zx_656 ft_9_36 hX dMo_transmit_112 h (fun a112 h => ?_)
            refine zg_aload_n (x := (some a0)) hX dMo_transmit_115 rfl ?_
            refine zg_getR (ci := 9) (k := 5) hc_9 (by decide) (by decide) hin_9 zx_627 ft_9_5 hX dMo_transmit_116 h (fun a116 h => ?_)
            refine zg_iload_n hX dMo_transmit_119 rfl ?_
            refine zg_iald (kd := 123) (by decide) (by decide) hX dMo_transmit_120 h (fun a120 j120 h => ?_)
            refine zg_aload_n (x := (some a0)) hX dMo_transmit_121 rfl ?_
            refine zg_iload_n hX dMo_transmit_122 rfl ?_
            refine zg_aload_n (x := (some a0)) hX dMo_transmit_123 rfl ?_
            refine zg_getR (ci := 9) (k := 36) hc_9 (by decide) (by decide) hin_9 zx_656 ft_9_36 hX dMo_transmit_124 h (fun a124 h => ?_)
            refine zg_aload_n (x := (some a0)) hX dMo_transmit_127 rfl ?_
            refine zg_getR (ci := 9) (k := 5) hc_9 (by decide) (by decide) hin_9 zx_627 ft_9_5 hX dMo_transmit_128 h (fun a128 h => ?_)
            refine zg_iload_n hX dMo_transmit_131 rfl ?_
            refine zg_iald (kd := 123) (by decide) (by decide) hX dMo_transmit_132 h (fun a132 j132 h => ?_)
            refine zg_iald (kd := 141) (by decide) (by decide) hX dMo_transmit_133 h (fun a133 j133 h => ?_)
            refine zg_bipush hX dMo_transmit_134 (16 : Int32) (by decide) ?_
            refine zg_iload_n hX dMo_transmit_136 rfl ?_
            refine zg_imul hX dMo_transmit_137 ?_
            obtain ⟨a138, e138, t138, h⟩ := zf_at_e h
            obtain ⟨v138, w138, q138, h⟩ := zf_bd_e h
            refine zg_callV_i (mcy := 0) (v := v138) (w1 := w138) (st := [.int (zw_I w 123 a120 j120), va_rf (zw_R w 1612 a112 0)]) hc_9 (by decide) e138 t138 [.int x3, .int (zw_I w 141 a133 j133), .int ((16 : Int32) * x1)] (fun l => zm_Mo_lay l D G A F w a138 x3 (zw_I w 141 a133 j133) ((16 : Int32) * x1) (v138, w138) q138) (zt_V zx_798 zx_800 zs_20 zx_5 zx_801) rfl hd_Mo_lay (by decide) (by decide) (by decide) (Nat.le_trans (zv_s rfl (zv_s (zv_cat _) zv_s0)) (by decide)) rfl rfl hX dMo_transmit_138 ?_
            refine zg_iast (kd := 141) (by decide) (by decide) hX dMo_transmit_141 h (fun w141 h => ?_)
            exact zg_sub (zl_k (zl_k (zl_k (zl_k zl_n)))) (zm_Mo_transmit_j142 hX hr hm hk64 ih w141 a0 x1 x2 x3 h)
        · exact zg_sub (zl_k (zl_k (zl_k (zl_k zl_n)))) (zm_Mo_transmit_j142 hX hr hm hk64 ih w a0 x1 x2 x3 h)
set_option maxHeartbeats 4000000 in
set_option maxRecDepth 100000 in
theorem zm_Mo_transmit_L64 {X : zg_X} {D : va_G} {G : zw_G} {A : Nat → Prop} {F : Nat} {r : Int32 × zw_T} (hX : zg_ok X cMo_transmit RMo 4 4 94 128 0 D G A) (hr : zg_rt X = some .int) (hm : zg_nm X = yMo_transmit.name) : ∀ (n : Nat) (w : zw_T) (a0 : Nat) (x1 : Int32) (x2 : Int32), zf_Mo_transmit_L64 F n w a0 x1 x2 = some r → zg X D G A (zg_Q X D G A 128 0 (zr_i r)) 128 0 w 64 [some (va_rf (some a0)), some (.int x1), some (.int x2), none] [] := by
  intro n
  induction n with
  | zero =>
    intro w a0 x1 x2 h
    unfold zf_Mo_transmit_L64 at h
    cases h
  | succ n ih =>
    intro w a0 x1 x2 h
    rw [zf_Mo_transmit_L64] at h
    refine zg_iload_n hX dMo_transmit_64 rfl ?_
    refine zg_if_lt (tgt := 154) hX dMo_transmit_65 rfl h (fun h => ?_) (fun h => ?_)
    · refine zg_aload_n (x := (some a0)) hX dMo_transmit_154 rfl ?_
      refine zg_iconst hX dMo_transmit_155 (0 : Int32) (by decide) ?_
      refine zg_putI (ci := 9) (k := 16) hc_9 (by decide) (by decide) hin_9 zx_638 ft_9_16 tyMo okMo nmMo rfl (vp_nar_int _) rfl hX dMo_transmit_156 h (fun w156 h => ?_)
      refine zg_aload_n (x := (some a0)) hX dMo_transmit_159 rfl ?_
      refine zg_ldc hX dMo_transmit_160 (-1431655766 : Int32) zx_826 ?_
      obtain ⟨a162, e162, t162, h⟩ := zf_at_e h
      obtain ⟨w162, q162, h⟩ := zf_bv_e h
      refine zg_callV_v (mcy := 0) (w1 := w162) (st := []) hc_9 (by decide) e162 t162 [.int (-1431655766 : Int32)] (fun l => zm_Mo_send l D G A F w156 a162 (-1431655766 : Int32) w162 q162) (zt_V zx_827 zx_829 zs_27 zx_5 zx_830) rfl hd_Mo_send (by decide) (by decide) (by decide) (Nat.le_of_ble_eq_true rfl) rfl rfl hX dMo_transmit_162 ?_
      refine zg_aload_n (x := (some a0)) hX dMo_transmit_165 rfl ?_
      refine zg_ldc hX dMo_transmit_166 (-1431655766 : Int32) zx_826 ?_
      obtain ⟨a168, e168, t168, h⟩ := zf_at_e h
      obtain ⟨w168, q168, h⟩ := zf_bv_e h
      refine zg_callV_v (mcy := 0) (w1 := w168) (st := []) hc_9 (by decide) e168 t168 [.int (-1431655766 : Int32)] (fun l => zm_Mo_send l D G A F w162 a168 (-1431655766 : Int32) w168 q168) (zt_V zx_827 zx_829 zs_27 zx_5 zx_830) rfl hd_Mo_send (by decide) (by decide) (by decide) (Nat.le_of_ble_eq_true rfl) rfl rfl hX dMo_transmit_168 ?_
      refine zg_iconst hX dMo_transmit_171 (0 : Int32) (by decide) ?_
      refine zg_istore_n hX dMo_transmit_172 (Nat.le_of_ble_eq_true rfl) rfl h (fun y172 h => ?_)
      exact zg_sub (zl_k (zl_k (zl_k (zl_d zl_n)))) (zm_Mo_transmit_L173 hX hr hm F w168 a0 x1 y172 h)
    · refine zg_iconst hX dMo_transmit_68 (0 : Int32) (by decide) ?_
      refine zg_istore_n hX dMo_transmit_69 (Nat.le_of_ble_eq_true rfl) rfl h (fun y69 h => ?_)
      exact zg_sub (zl_k (zl_k (zl_k (zl_k zl_n)))) (zm_Mo_transmit_L70 hX hr hm ih F w a0 x1 x2 y69 h)
set_option maxHeartbeats 4000000 in
set_option maxRecDepth 100000 in
theorem zm_Mo_transmit_L43 {X : zg_X} {D : va_G} {G : zw_G} {A : Nat → Prop} {F : Nat} {r : Int32 × zw_T} (hX : zg_ok X cMo_transmit RMo 4 4 94 128 0 D G A) (hr : zg_rt X = some .int) (hm : zg_nm X = yMo_transmit.name) : ∀ (n : Nat) (w : zw_T) (a0 : Nat) (x1 : Int32) (x2 : Int32), zf_Mo_transmit_L43 F n w a0 x1 x2 = some r → zg X D G A (zg_Q X D G A 128 0 (zr_i r)) 128 0 w 43 [some (va_rf (some a0)), some (.int x1), some (.int x2), none] [] := by
  intro n
  induction n with
  | zero =>
    intro w a0 x1 x2 h
    unfold zf_Mo_transmit_L43 at h
    cases h
  | succ n ih =>
    intro w a0 x1 x2 h
    rw [zf_Mo_transmit_L43] at h
    refine zg_iload_n hX dMo_transmit_43 rfl ?_
    refine zg_bipush hX dMo_transmit_44 (12 : Int32) (by decide) ?_
    refine zg_icmp_ge (tgt := 62) hX dMo_transmit_46 rfl h (fun h => ?_) (fun h => ?_)
    · refine zg_iconst hX dMo_transmit_62 (3 : Int32) (by decide) ?_
      refine zg_istore_n hX dMo_transmit_63 (Nat.le_of_ble_eq_true rfl) rfl h (fun y63 h => ?_)
      exact zg_sub (zl_k (zl_k (zl_k (zl_d zl_n)))) (zm_Mo_transmit_L64 hX hr hm F w a0 x1 y63 h)
    · refine zg_aload_n (x := (some a0)) hX dMo_transmit_49 rfl ?_
      refine zg_getR (ci := 9) (k := 36) hc_9 (by decide) (by decide) hin_9 zx_656 ft_9_36 hX dMo_transmit_50 h (fun a50 h => ?_)
      refine zg_iload_n hX dMo_transmit_53 rfl ?_
      refine zg_iconst hX dMo_transmit_54 (0 : Int32) (by decide) ?_
      refine zg_iast (kd := 141) (by decide) (by decide) hX dMo_transmit_55 h (fun w55 h => ?_)
      refine zg_iinc hX dMo_transmit_56 (1 : Int32) rfl (by decide) (Nat.le_of_ble_eq_true rfl) rfl h (fun y56 h => ?_)
      refine zg_goto (tgt := 43) hX dMo_transmit_59 rfl ?_
      exact zg_sub (zl_k (zl_k (zl_k (zl_d zl_n)))) (ih w55 a0 x1 y56 h)
set_option maxHeartbeats 4000000 in
set_option maxRecDepth 100000 in
theorem zm_Mo_transmit_L14 {X : zg_X} {D : va_G} {G : zw_G} {A : Nat → Prop} {F : Nat} {r : Int32 × zw_T} (hX : zg_ok X cMo_transmit RMo 4 4 94 128 0 D G A) (hr : zg_rt X = some .int) (hm : zg_nm X = yMo_transmit.name) : ∀ (n : Nat) (w : zw_T) (a0 : Nat) (x1 : Int32) (x2 : Int32), zf_Mo_transmit_L14 F n w a0 x1 x2 = some r → zg X D G A (zg_Q X D G A 128 0 (zr_i r)) 128 0 w 14 [some (va_rf (some a0)), some (.int x1), some (.int x2), none] [] := by
  intro n
  induction n with
  | zero =>
    intro w a0 x1 x2 h
    unfold zf_Mo_transmit_L14 at h
    cases h
  | succ n ih =>
    intro w a0 x1 x2 h
    rw [zf_Mo_transmit_L14] at h
    refine zg_iload_n hX dMo_transmit_14 rfl ?_
    refine zg_bipush hX dMo_transmit_15 (64 : Int32) (by decide) ?_
    refine zg_icmp_ge (tgt := 41) hX dMo_transmit_17 rfl h (fun h => ?_) (fun h => ?_)
    · refine zg_iconst hX dMo_transmit_41 (0 : Int32) (by decide) ?_
      refine zg_istore_n hX dMo_transmit_42 (Nat.le_of_ble_eq_true rfl) rfl h (fun y42 h => ?_)
      exact zg_sub (zl_k (zl_k (zl_k (zl_d zl_n)))) (zm_Mo_transmit_L43 hX hr hm F w a0 x1 y42 h)
    · refine zg_aload_n (x := (some a0)) hX dMo_transmit_20 rfl ?_
      refine zg_getR (ci := 9) (k := 14) hc_9 (by decide) (by decide) hin_9 zx_636 ft_9_14 hX dMo_transmit_21 h (fun a21 h => ?_)
      refine zg_iload_n hX dMo_transmit_24 rfl ?_
      refine zg_iconst hX dMo_transmit_25 (0 : Int32) (by decide) ?_
      refine zg_zast (kd := 201) (by decide) (by decide) hX dMo_transmit_26 h (fun w26 h => ?_)
      refine zg_aload_n (x := (some a0)) hX dMo_transmit_27 rfl ?_
      refine zg_getR (ci := 9) (k := 13) hc_9 (by decide) (by decide) hin_9 zx_635 ft_9_13 hX dMo_transmit_28 h (fun a28 h => ?_)
      refine zg_iload_n hX dMo_transmit_31 rfl ?_
      refine zg_ldc hX dMo_transmit_32 (2055848343 : Int32) zx_797 ?_
      refine zg_iast (kd := 129) (by decide) (by decide) hX dMo_transmit_34 h (fun w34 h => ?_)
      refine zg_iinc hX dMo_transmit_35 (1 : Int32) rfl (by decide) (Nat.le_of_ble_eq_true rfl) rfl h (fun y35 h => ?_)
      refine zg_goto (tgt := 14) hX dMo_transmit_38 rfl ?_
      exact zg_sub (zl_k (zl_k (zl_k (zl_d zl_n)))) (ih w34 a0 x1 y35 h)
set_option maxHeartbeats 4000000 in
set_option maxRecDepth 100000 in
theorem zm_Mo_transmit (l : Launch) (D : va_G) (G : zw_G) (A : Nat → Prop) (F : Nat) (w : zw_T) (a0 : Nat) (x1 : Int32) (r : Int32 × zw_T) (h : zf_Mo_transmit F w a0 x1 = some r) : zc l yMo_transmit wsMo_transmit 4 94 128 0 D G A [.ref a0, .int x1] w (zr_i r) := by
  refine zc_of (ret := some .int) [some (va_rf (some a0)), some (.int x1), none, none] (plainFor_of_name (by decide +kernel)) rfl (Nat.le_of_ble_eq_true rfl) rfl rfl (fun X hX hr hm => ?_)
  unfold zf_Mo_transmit at h
  refine zg_iload_n hX dMo_transmit_0 rfl ?_
  refine zg_iconst hX dMo_transmit_1 (1 : Int32) (by decide) ?_
  refine zg_icmp_lt (tgt := 10) hX dMo_transmit_2 rfl h (fun h => ?_) (fun h => ?_)
  · refine zg_iconst hX dMo_transmit_10 (-1 : Int32) (by decide) ?_
    cases h
    exact zg_iret hX hr (by decide) dMo_transmit_11
  · refine zg_iload_n hX dMo_transmit_5 rfl ?_
    refine zg_iconst hX dMo_transmit_6 (4 : Int32) (by decide) ?_
    refine zg_icmp_le (tgt := 12) hX dMo_transmit_7 rfl h (fun h => ?_) (fun h => ?_)
    · refine zg_iconst hX dMo_transmit_12 (0 : Int32) (by decide) ?_
      refine zg_istore_n hX dMo_transmit_13 (Nat.le_of_ble_eq_true rfl) rfl h (fun y13 h => ?_)
      exact zg_sub (zl_k (zl_k (zl_k (zl_d zl_n)))) (zm_Mo_transmit_L14 hX hr hm F w a0 x1 y13 h)
    · refine zg_iconst hX dMo_transmit_10 (-1 : Int32) (by decide) ?_
      cases h
      exact zg_iret hX hr (by decide) dMo_transmit_11
def zf_Mo_unload (F : Nat) (w : zw_T) (a0 : Nat) : Option (Int32 × zw_T) :=
  zf_at w 10 (some a0) fun a1 =>
  zf_let (zw_I w 1588 a1 0) fun y4 =>
  zf_at w 10 (some a0) fun a7 => zf_let (zw_sI w 1588 a7 0 (0 : Int32)) fun w7 =>
  some (y4, w7)
set_option maxHeartbeats 4000000 in
set_option maxRecDepth 100000 in
theorem zm_Mo_unload (l : Launch) (D : va_G) (G : zw_G) (A : Nat → Prop) (F : Nat) (w : zw_T) (a0 : Nat) (r : Int32 × zw_T) (h : zf_Mo_unload F w a0 = some r) : zc l yMo_unload wsMo_unload 0 0 128 0 D G A [.ref a0] w (zr_i r) := by
  refine zc_of (ret := some .int) [some (va_rf (some a0)), none] (plainFor_of_name (by decide +kernel)) rfl (Nat.le_of_ble_eq_true rfl) rfl rfl (fun X hX hr hm => ?_)
  unfold zf_Mo_unload at h
  refine zg_aload_n (x := (some a0)) hX dMo_unload_0 rfl ?_
  refine zg_getI (ci := 9) (k := 12) hc_9 (by decide) (by decide) hin_9 zx_634 ft_9_12 hX dMo_unload_1 h (fun a1 h => ?_)
  refine zg_istore_n hX dMo_unload_4 (Nat.le_of_ble_eq_true rfl) rfl h (fun y4 h => ?_)
  refine zg_aload_n (x := (some a0)) hX dMo_unload_5 rfl ?_
  refine zg_iconst hX dMo_unload_6 (0 : Int32) (by decide) ?_
  refine zg_putI (ci := 9) (k := 12) hc_9 (by decide) (by decide) hin_9 zx_634 ft_9_12 tyMo okMo nmMo rfl (vp_nar_int _) rfl hX dMo_unload_7 h (fun w7 h => ?_)
  refine zg_iload_n hX dMo_unload_10 rfl ?_
  cases h
  exact zg_iret hX hr (by decide) dMo_unload_11
