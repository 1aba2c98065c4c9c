def zf_Ly_init (F : Nat) (w : zw_T) (a0 : Nat) : Option (zw_T) :=
  zf_na 128 w 101 (64 : Int32) fun w7 =>
  zf_at w7 4 (some a0) fun a9 => zf_let (zw_sR w7 1192 a9 0 (some (zw_n w))) fun w9 =>
  zf_at w9 4 (some a0) fun a14 => zf_let (zw_sI w9 1193 a14 0 (0 : Int32)) fun w14 =>
  some w14
set_option maxHeartbeats 4000000 in
set_option maxRecDepth 100000 in
theorem zm_Ly_init (l : Launch) (D : va_G) (G : zw_G) (A : Nat → Prop) (F : Nat) (w : zw_T) (a0 : Nat) (r : zw_T) (h : zf_Ly_init F w a0 = some r) : zc l yLy_init wsLy_init 1 20 128 1 D G A [.ref a0] w (zr_v r) := by
  refine zc_of (ret := none) [some (va_rf (some a0))] (plainFor_of_name (by decide +kernel)) rfl (Nat.le_of_ble_eq_true rfl) rfl rfl (fun X hX hr hm => ?_)
  unfold zf_Ly_init at h
  refine zg_aload_n (x := (some a0)) hX dLy_init_0 rfl ?_
  refine zg_oinit zx_35 zx_22 zx_23 (by decide) (by decide) rfl hX dLy_init_1 ?_
  refine zg_aload_n (x := (some a0)) hX dLy_init_4 rfl ?_
  refine zg_bipush hX dLy_init_5 (64 : Int32) (by decide) ?_
  refine zg_newi (kd := 101) (bd := 128) (by decide) (by decide) (by decide) (by decide) zx_44 (by decide) hX dLy_init_7 h (fun w7 h => ?_)
  refine zg_pfiR (ci := 3) (k := 0) hc_3 (by decide) (by decide) hin_3 zx_36 ft_3_0 tyLy okLy nmLy rfl hm rfl (zv_na _ _).1 (zv_na _ _).2 hX dLy_init_9 h (fun w9 h => ?_)
  refine zg_aload_n (x := (some a0)) hX dLy_init_12 rfl ?_
  refine zg_iconst hX dLy_init_13 (0 : Int32) (by decide) ?_
  refine zg_putI (ci := 3) (k := 1) hc_3 (by decide) (by decide) hin_3 zx_38 ft_3_1 tyLy okLy nmLy rfl (vp_nar_int _) rfl hX dLy_init_14 h (fun w14 h => ?_)
  cases h
  exact zg_vret hX hr (by decide) dLy_init_17
def zf_Ai_init (F : Nat) (w : zw_T) (a0 : Nat) : Option (zw_T) :=
  zf_na 128 w 102 (70 : Int32) fun w7 =>
  zf_at w7 1 (some a0) fun a9 => zf_let (zw_sR w7 1000 a9 0 (some (zw_n w))) fun w9 =>
  zf_at w9 1 (some a0) fun a14 => zf_let (zw_sI w9 1001 a14 0 (0 : Int32)) fun w14 =>
  some w14
set_option maxHeartbeats 4000000 in
set_option maxRecDepth 100000 in
theorem zm_Ai_init (l : Launch) (D : va_G) (G : zw_G) (A : Nat → Prop) (F : Nat) (w : zw_T) (a0 : Nat) (r : zw_T) (h : zf_Ai_init F w a0 = some r) : zc l yAi_init wsAi_init 1 20 128 1 D G A [.ref a0] w (zr_v r) := by
  refine zc_of (ret := none) [some (va_rf (some a0))] (plainFor_of_name (by decide +kernel)) rfl (Nat.le_of_ble_eq_true rfl) rfl rfl (fun X hX hr hm => ?_)
  unfold zf_Ai_init at h
  refine zg_aload_n (x := (some a0)) hX dAi_init_0 rfl ?_
  refine zg_oinit zx_50 zx_22 zx_23 (by decide) (by decide) rfl hX dAi_init_1 ?_
  refine zg_aload_n (x := (some a0)) hX dAi_init_4 rfl ?_
  refine zg_bipush hX dAi_init_5 (70 : Int32) (by decide) ?_
  refine zg_newi (kd := 102) (bd := 128) (by decide) (by decide) (by decide) (by decide) zx_44 (by decide) hX dAi_init_7 h (fun w7 h => ?_)
  refine zg_pfiR (ci := 0) (k := 0) hc_0 (by decide) (by decide) hin_0 zx_51 ft_0_0 tyAi okAi nmAi rfl hm rfl (zv_na _ _).1 (zv_na _ _).2 hX dAi_init_9 h (fun w9 h => ?_)
  refine zg_aload_n (x := (some a0)) hX dAi_init_12 rfl ?_
  refine zg_iconst hX dAi_init_13 (0 : Int32) (by decide) ?_
  refine zg_putI (ci := 0) (k := 1) hc_0 (by decide) (by decide) hin_0 zx_52 ft_0_1 tyAi okAi nmAi rfl (vp_nar_int _) rfl hX dAi_init_14 h (fun w14 h => ?_)
  cases h
  exact zg_vret hX hr (by decide) dAi_init_17
def zf_Ls_init (F : Nat) (w : zw_T) (a0 : Nat) : Option (zw_T) :=
  zf_at w 5 (some a0) fun a6 => zf_let (zw_sR w 1256 a6 0 none) fun w6 =>
  zf_at w6 5 (some a0) fun a11 => zf_let (zw_sR w6 1257 a11 0 none) fun w11 =>
  zf_at w11 5 (some a0) fun a16 => zf_let (zw_sI w11 1258 a16 0 (0 : Int32)) fun w16 =>
  zf_at w16 5 (some a0) fun a21 => zf_let (zw_sR w16 1259 a21 0 none) fun w21 =>
  zf_na 128 w21 103 (22 : Int32) fun w27 =>
  zf_at w27 5 (some a0) fun a29 => zf_let (zw_sR w27 1260 a29 0 (some (zw_n w21))) fun w29 =>
  zf_at w29 5 (some a0) fun a34 => zf_let (zw_sI w29 1261 a34 0 (0 : Int32)) fun w34 =>
  zf_at w34 5 (some a0) fun a39 => zf_let (zw_sI w34 1262 a39 0 (0 : Int32)) fun w39 =>
  zf_at w39 5 (some a0) fun a44 => zf_let (zw_sI w39 1263 a44 0 (0 : Int32)) fun w44 =>
  some w44
set_option maxHeartbeats 4000000 in
set_option maxRecDepth 100000 in
theorem zm_Ls_init (l : Launch) (D : va_G) (G : zw_G) (A : Nat → Prop) (F : Nat) (w : zw_T) (a0 : Nat) (r : zw_T) (h : zf_Ls_init F w a0 = some r) : zc l yLs_init wsLs_init 1 20 128 1 D G A [.ref a0] w (zr_v r) := by
  refine zc_of (ret := none) [some (va_rf (some a0))] (plainFor_of_name (by decide +kernel)) rfl (Nat.le_of_ble_eq_true rfl) rfl rfl (fun X hX hr hm => ?_)
  unfold zf_Ls_init at h
  refine zg_aload_n (x := (some a0)) hX dLs_init_0 rfl ?_
  refine zg_oinit zx_65 zx_22 zx_23 (by decide) (by decide) rfl hX dLs_init_1 ?_
  refine zg_aload_n (x := (some a0)) hX dLs_init_4 rfl ?_
  refine zg_null hX dLs_init_5 ?_
  refine zg_putR (ci := 4) (k := 0) hc_4 (by decide) (by decide) hin_4 zx_66 ft_4_0 tyLs okLs nmLs rfl (zv_no _ _).1 (zv_no _ _).2 hX dLs_init_6 h (fun w6 h => ?_)
  refine zg_aload_n (x := (some a0)) hX dLs_init_9 rfl ?_
  refine zg_null hX dLs_init_10 ?_
  refine zg_putR (ci := 4) (k := 1) hc_4 (by decide) (by decide) hin_4 zx_67 ft_4_1 tyLs okLs nmLs rfl (zv_no _ _).1 (zv_no _ _).2 hX dLs_init_11 h (fun w11 h => ?_)
  refine zg_aload_n (x := (some a0)) hX dLs_init_14 rfl ?_
  refine zg_iconst hX dLs_init_15 (0 : Int32) (by decide) ?_
  refine zg_putI (ci := 4) (k := 2) hc_4 (by decide) (by decide) hin_4 zx_68 ft_4_2 tyLs okLs nmLs rfl (vp_nar_int _) rfl hX dLs_init_16 h (fun w16 h => ?_)
  refine zg_aload_n (x := (some a0)) hX dLs_init_19 rfl ?_
  refine zg_null hX dLs_init_20 ?_
  refine zg_putR (ci := 4) (k := 3) hc_4 (by decide) (by decide) hin_4 zx_69 ft_4_3 tyLs okLs nmLs rfl (zv_no _ _).1 (zv_no _ _).2 hX dLs_init_21 h (fun w21 h => ?_)
  refine zg_aload_n (x := (some a0)) hX dLs_init_24 rfl ?_
  refine zg_bipush hX dLs_init_25 (22 : Int32) (by decide) ?_
  refine zg_newi (kd := 103) (bd := 128) (by decide) (by decide) (by decide) (by decide) zx_44 (by decide) hX dLs_init_27 h (fun w27 h => ?_)
  refine zg_pfiR (ci := 4) (k := 4) hc_4 (by decide) (by decide) hin_4 zx_70 ft_4_4 tyLs okLs nmLs rfl hm rfl (zv_na _ _).1 (zv_na _ _).2 hX dLs_init_29 h (fun w29 h => ?_)
  refine zg_aload_n (x := (some a0)) hX dLs_init_32 rfl ?_
  refine zg_iconst hX dLs_init_33 (0 : Int32) (by decide) ?_
  refine zg_putI (ci := 4) (k := 5) hc_4 (by decide) (by decide) hin_4 zx_71 ft_4_5 tyLs okLs nmLs rfl (vp_nar_int _) rfl hX dLs_init_34 h (fun w34 h => ?_)
  refine zg_aload_n (x := (some a0)) hX dLs_init_37 rfl ?_
  refine zg_iconst hX dLs_init_38 (0 : Int32) (by decide) ?_
  refine zg_putI (ci := 4) (k := 6) hc_4 (by decide) (by decide) hin_4 zx_72 ft_4_6 tyLs okLs nmLs rfl (vp_nar_int _) rfl hX dLs_init_39 h (fun w39 h => ?_)
  refine zg_aload_n (x := (some a0)) hX dLs_init_42 rfl ?_
  refine zg_iconst hX dLs_init_43 (0 : Int32) (by decide) ?_
  refine zg_putI (ci := 4) (k := 7) hc_4 (by decide) (by decide) hin_4 zx_73 ft_4_7 tyLs okLs nmLs rfl (vp_nar_int _) rfl hX dLs_init_44 h (fun w44 h => ?_)
  cases h
  exact zg_vret hX hr (by decide) dLs_init_47
def zf_WP_init (F : Nat) (w : zw_T) (a0 : Nat) : Option (zw_T) :=
  zf_na 256 w 402 (12 : Int32) fun w7 =>
  zf_at w7 9 (some a0) fun a10 => zf_let (zw_sR w7 1512 a10 0 (some (zw_n w))) fun w10 =>
  zf_at w10 9 (some a0) fun a15 => zf_let (zw_sI w10 1513 a15 0 (0 : Int32)) fun w15 =>
  zf_na 256 w15 406 (6 : Int32) fun w21 =>
  zf_at w21 9 (some a0) fun a24 => zf_let (zw_sR w21 1514 a24 0 (some (zw_n w15))) fun w24 =>
  zf_at w24 9 (some a0) fun a29 => zf_let (zw_sI w24 1515 a29 0 (0 : Int32)) fun w29 =>
  zf_na 256 w29 405 (200 : Int32) fun w36 =>
  zf_at w36 9 (some a0) fun a39 => zf_let (zw_sR w36 1516 a39 0 (some (zw_n w29))) fun w39 =>
  zf_at w39 9 (some a0) fun a44 => zf_let (zw_sI w39 1517 a44 0 (0 : Int32)) fun w44 =>
  zf_at w44 9 (some a0) fun a49 => zf_let (zw_sI w44 1518 a49 0 (0 : Int32)) fun w49 =>
  zf_na 256 w49 100 (20 : Int32) fun w55 =>
  zf_at w55 9 (some a0) fun a57 => zf_let (zw_sR w55 1519 a57 0 (some (zw_n w49))) fun w57 =>
  zf_at w57 9 (some a0) fun a62 => zf_let (zw_sI w57 1520 a62 0 (0 : Int32)) fun w62 =>
  zf_let (zw_new w62 4 0) fun w66 =>
  zf_bv (zf_Ly_init F w66 (zw_n w62)) fun w70 =>
  zf_at w70 9 (some a0) fun a73 => zf_let (zw_sR w70 1521 a73 0 (some (zw_n w62))) fun w73 =>
  zf_let (zw_new w73 1 0) fun w77 =>
  zf_bv (zf_Ai_init F w77 (zw_n w73)) fun w81 =>
  zf_at w81 9 (some a0) fun a84 => zf_let (zw_sR w81 1522 a84 0 (some (zw_n w73))) fun w84 =>
  zf_let (zw_new w84 5 0) fun w88 =>
  zf_bv (zf_Ls_init F w88 (zw_n w84)) fun w92 =>
  zf_at w92 9 (some a0) fun a95 => zf_let (zw_sR w92 1523 a95 0 (some (zw_n w84))) fun w95 =>
  some w95
set_option maxHeartbeats 4000000 in
set_option maxRecDepth 100000 in
theorem zm_WP_init (l : Launch) (D : va_G) (G : zw_G) (A : Nat → Prop) (F : Nat) (w : zw_T) (a0 : Nat) (r : zw_T) (h : zf_WP_init F w a0 = some r) : zc l yWP_init wsWP_init 2 40 256 10 D G A [.ref a0] w (zr_v r) := by
  refine zc_of (ret := none) [some (va_rf (some a0))] (plainFor_of_name (by decide +kernel)) rfl (Nat.le_of_ble_eq_true rfl) rfl rfl (fun X hX hr hm => ?_)
  unfold zf_WP_init at h
  refine zg_aload_n (x := (some a0)) hX dWP_init_0 rfl ?_
  refine zg_oinit zx_21 zx_22 zx_23 (by decide) (by decide) rfl hX dWP_init_1 ?_
  refine zg_aload_n (x := (some a0)) hX dWP_init_4 rfl ?_
  refine zg_bipush hX dWP_init_5 (12 : Int32) (by decide) ?_
  refine zg_newr (ci := 2) (bd := 256) (by decide) (by decide) (t0 := 4) rfl zx_24 za_2 (by decide) hX dWP_init_7 h (fun w7 h => ?_)
  refine zg_pfiR (ci := 8) (k := 0) hc_8 (by decide) (by decide) hin_8 zx_91 ft_8_0 tyWP okWP nmWP rfl hm rfl (zv_na _ _).1 (zv_na _ _).2 hX dWP_init_10 h (fun w10 h => ?_)
  refine zg_aload_n (x := (some a0)) hX dWP_init_13 rfl ?_
  refine zg_iconst hX dWP_init_14 (0 : Int32) (by decide) ?_
  refine zg_putI (ci := 8) (k := 1) hc_8 (by decide) (by decide) hin_8 zx_92 ft_8_1 tyWP okWP nmWP rfl (vp_nar_int _) rfl hX dWP_init_15 h (fun w15 h => ?_)
  refine zg_aload_n (x := (some a0)) hX dWP_init_18 rfl ?_
  refine zg_bipush hX dWP_init_19 (6 : Int32) (by decide) ?_
  refine zg_newr (ci := 6) (bd := 256) (by decide) (by decide) (t0 := 6) rfl zx_26 za_6 (by decide) hX dWP_init_21 h (fun w21 h => ?_)
  refine zg_pfiR (ci := 8) (k := 2) hc_8 (by decide) (by decide) hin_8 zx_93 ft_8_2 tyWP okWP nmWP rfl hm rfl (zv_na _ _).1 (zv_na _ _).2 hX dWP_init_24 h (fun w24 h => ?_)
  refine zg_aload_n (x := (some a0)) hX dWP_init_27 rfl ?_
  refine zg_iconst hX dWP_init_28 (0 : Int32) (by decide) ?_
  refine zg_putI (ci := 8) (k := 3) hc_8 (by decide) (by decide) hin_8 zx_94 ft_8_3 tyWP okWP nmWP rfl (vp_nar_int _) rfl hX dWP_init_29 h (fun w29 h => ?_)
  refine zg_aload_n (x := (some a0)) hX dWP_init_32 rfl ?_
  refine zg_sipush hX dWP_init_33 (200 : Int32) (by decide) ?_
  refine zg_newr (ci := 5) (bd := 256) (by decide) (by decide) (t0 := 5) rfl zx_28 za_5 (by decide) hX dWP_init_36 h (fun w36 h => ?_)
  refine zg_pfiR (ci := 8) (k := 4) hc_8 (by decide) (by decide) hin_8 zx_95 ft_8_4 tyWP okWP nmWP rfl hm rfl (zv_na _ _).1 (zv_na _ _).2 hX dWP_init_39 h (fun w39 h => ?_)
  refine zg_aload_n (x := (some a0)) hX dWP_init_42 rfl ?_
  refine zg_iconst hX dWP_init_43 (0 : Int32) (by decide) ?_
  refine zg_putI (ci := 8) (k := 5) hc_8 (by decide) (by decide) hin_8 zx_96 ft_8_5 tyWP okWP nmWP rfl (vp_nar_int _) rfl hX dWP_init_44 h (fun w44 h => ?_)
  refine zg_aload_n (x := (some a0)) hX dWP_init_47 rfl ?_
  refine zg_iconst hX dWP_init_48 (0 : Int32) (by decide) ?_
  refine zg_putI (ci := 8) (k := 6) hc_8 (by decide) (by decide) hin_8 zx_97 ft_8_6 tyWP okWP nmWP rfl (vp_nar_int _) rfl hX dWP_init_49 h (fun w49 h => ?_)
  refine zg_aload_n (x := (some a0)) hX dWP_init_52 rfl ?_
  refine zg_bipush hX dWP_init_53 (20 : Int32) (by decide) ?_
  refine zg_newi (kd := 100) (bd := 256) (by decide) (by decide) (by decide) (by decide) zx_44 (by decide) hX dWP_init_55 h (fun w55 h => ?_)
  refine zg_pfiR (ci := 8) (k := 7) hc_8 (by decide) (by decide) hin_8 zx_98 ft_8_7 tyWP okWP nmWP rfl hm rfl (zv_na _ _).1 (zv_na _ _).2 hX dWP_init_57 h (fun w57 h => ?_)
  refine zg_aload_n (x := (some a0)) hX dWP_init_60 rfl ?_
  refine zg_iconst hX dWP_init_61 (0 : Int32) (by decide) ?_
  refine zg_putI (ci := 8) (k := 8) hc_8 (by decide) (by decide) hin_8 zx_99 ft_8_8 tyWP okWP nmWP rfl (vp_nar_int _) rfl hX dWP_init_62 h (fun w62 h => ?_)
  refine zg_aload_n (x := (some a0)) hX dWP_init_65 rfl ?_
  refine zg_new (ci := 3) hc_3 (by decide) hin_3 tyLy okLy df_3 zx_30 zx_31 zx_2 (by decide) (by decide) hX dWP_init_66 h (fun w66 h => ?_)
  refine zg_dup hX dWP_init_69 rfl ?_
  obtain ⟨w70, q70, h⟩ := zf_bv_e h
  refine zg_callIN_v (mcy := 1) (w1 := w70) (st := [va_rf (some (zw_n w62)), va_rf (some a0)]) [] (fun l => zm_Ly_init l D G A F w66 (zw_n w62) w70 q70) rfl rfl (zt_G zx_34) zn_0 zx_2 zx_33 rfl hd_Ly_init (by decide) (by decide) (by decide) (Nat.le_of_ble_eq_true rfl) rfl rfl hX dWP_init_70 ?_
  refine zg_pfiR (ci := 8) (k := 9) hc_8 (by decide) (by decide) hin_8 zx_100 ft_8_9 tyWP okWP nmWP rfl hm rfl (zv_no _ _).1 (zv_no _ _).2 hX dWP_init_73 h (fun w73 h => ?_)
  refine zg_aload_n (x := (some a0)) hX dWP_init_76 rfl ?_
  refine zg_new (ci := 0) hc_0 (by decide) hin_0 tyAi okAi df_0 zx_45 zx_46 zx_3 (by decide) (by decide) hX dWP_init_77 h (fun w77 h => ?_)
  refine zg_dup hX dWP_init_80 rfl ?_
  obtain ⟨w81, q81, h⟩ := zf_bv_e h
  refine zg_callIN_v (mcy := 1) (w1 := w81) (st := [va_rf (some (zw_n w73)), va_rf (some a0)]) [] (fun l => zm_Ai_init l D G A F w77 (zw_n w73) w81 q81) rfl rfl (zt_G zx_49) zn_1 zx_3 zx_48 rfl hd_Ai_init (by decide) (by decide) (by decide) (Nat.le_of_ble_eq_true rfl) rfl rfl hX dWP_init_81 ?_
  refine zg_pfiR (ci := 8) (k := 10) hc_8 (by decide) (by decide) hin_8 zx_101 ft_8_10 tyWP okWP nmWP rfl hm rfl (zv_no _ _).1 (zv_no _ _).2 hX dWP_init_84 h (fun w84 h => ?_)
  refine zg_aload_n (x := (some a0)) hX dWP_init_87 rfl ?_
  refine zg_new (ci := 4) hc_4 (by decide) hin_4 tyLs okLs df_4 zx_60 zx_61 zx_4 (by decide) (by decide) hX dWP_init_88 h (fun w88 h => ?_)
  refine zg_dup hX dWP_init_91 rfl ?_
  obtain ⟨w92, q92, h⟩ := zf_bv_e h
  refine zg_callIN_v (mcy := 1) (w1 := w92) (st := [va_rf (some (zw_n w84)), va_rf (some a0)]) [] (fun l => zm_Ls_init l D G A F w88 (zw_n w84) w92 q92) rfl rfl (zt_G zx_64) zn_2 zx_4 zx_63 rfl hd_Ls_init (by decide) (by decide) (by decide) (Nat.le_of_ble_eq_true rfl) rfl rfl hX dWP_init_92 ?_
  refine zg_pfiR (ci := 8) (k := 11) hc_8 (by decide) (by decide) hin_8 zx_102 ft_8_11 tyWP okWP nmWP rfl hm rfl (zv_no _ _).1 (zv_no _ _).2 hX dWP_init_95 h (fun w95 h => ?_)
  cases h
  exact zg_vret hX hr (by decide) dWP_init_98
def zf_WP_areLoadedSignsOf_L2 (F : Nat) : Nat → zw_T → Nat → (Option Nat) → Int32 → Option (Int32 × zw_T)
  | 0, _, _, _, _ => none
  | n + 1, w, a0, o1, x2 =>
  zf_at w 9 (some a0) fun a4 =>
  if (zw_I w 1520 a4 0) ≤ x2 then (
  zf_at w 9 (some a0) fun a45 =>
  if (zw_I w 1520 a45 0) ≤ 0 then (
  zf_b (0 : Int32) (some ((0 : Int32), w)))
  else (
  zf_b (1 : Int32) (some ((1 : Int32), w))))
  else (
  zf_at w 9 (some a0) fun a11 =>
  zf_ix w 100 (zw_R w 1519 a11 0) x2 fun a15 j15 =>
  zf_at w 3 o1 fun a17 =>
  if (zw_I w 100 a15 j15) < (zw_I w 1133 a17 0) then (
  zf_b (0 : Int32) (some ((0 : Int32), w)))
  else (
  zf_at w 9 (some a0) fun a24 =>
  zf_ix w 100 (zw_R w 1519 a24 0) x2 fun a28 j28 =>
  zf_at w 3 o1 fun a30 =>
  if (zw_I w 100 a28 j28) ≤ (zw_I w 1134 a30 0) then (
  zf_let (x2 + (1 : Int32)) fun y38 =>
  zf_WP_areLoadedSignsOf_L2 F n w a0 o1 y38)
  else (
  zf_b (0 : Int32) (some ((0 : Int32), w)))))
def zf_WP_areLoadedSignsOf (F : Nat) (w : zw_T) (a0 : Nat) (o1 : Option Nat) : Option (Int32 × zw_T) :=
  zf_let (0 : Int32) fun y1 =>
  zf_WP_areLoadedSignsOf_L2 F F w a0 o1 y1
set_option maxHeartbeats 4000000 in
set_option maxRecDepth 100000 in
theorem zm_WP_areLoadedSignsOf_L2 {X : zg_X} {D : va_G} {G : zw_G} {A : Nat → Prop} {F : Nat} {r : Int32 × zw_T} (hX : zg_ok X cWP_areLoadedSignsOf RWP 3 0 0 128 0 D G A) (hr : zg_rt X = some .boolean) (hm : zg_nm X = yWP_areLoadedSignsOf.name) : ∀ (n : Nat) (w : zw_T) (a0 : Nat) (o1 : Option Nat) (x2 : Int32), zf_WP_areLoadedSignsOf_L2 F n w a0 o1 x2 = some r → zg X D G A (zg_Q X D G A 128 0 (zr_i r)) 128 0 w 2 [some (va_rf (some a0)), some (va_rf o1), some (.int x2)] [] := by
  intro n
  induction n with
  | zero =>
    intro w a0 o1 x2 h
    unfold zf_WP_areLoadedSignsOf_L2 at h
    cases h
  | succ n ih =>
    intro w a0 o1 x2 h
    rw [zf_WP_areLoadedSignsOf_L2] at h
    refine zg_iload_n hX dWP_areLoadedSignsOf_2 rfl ?_
    refine zg_aload_n (x := (some a0)) hX dWP_areLoadedSignsOf_3 rfl ?_
    refine zg_getI (ci := 8) (k := 8) hc_8 (by decide) (by decide) hin_8 zx_99 ft_8_8 hX dWP_areLoadedSignsOf_4 h (fun a4 h => ?_)
    refine zg_icmp_ge (tgt := 44) hX dWP_areLoadedSignsOf_7 rfl h (fun h => ?_) (fun h => ?_)
    · refine zg_aload_n (x := (some a0)) hX dWP_areLoadedSignsOf_44 rfl ?_
      refine zg_getI (ci := 8) (k := 8) hc_8 (by decide) (by decide) hin_8 zx_99 ft_8_8 hX dWP_areLoadedSignsOf_45 h (fun a45 h => ?_)
      refine zg_if_le (tgt := 55) hX dWP_areLoadedSignsOf_48 rfl h (fun h => ?_) (fun h => ?_)
      · refine zg_iconst hX dWP_areLoadedSignsOf_55 (0 : Int32) (by decide) ?_
        obtain ⟨hb56, h⟩ := zf_b_e h
        cases h
        exact zg_zret hX hr (zf_b_n hb56).1 (by decide) dWP_areLoadedSignsOf_56
      · refine zg_iconst hX dWP_areLoadedSignsOf_51 (1 : Int32) (by decide) ?_
        refine zg_goto (tgt := 56) hX dWP_areLoadedSignsOf_52 rfl ?_
        obtain ⟨hb56, h⟩ := zf_b_e h
        cases h
        exact zg_zret hX hr (zf_b_n hb56).1 (by decide) dWP_areLoadedSignsOf_56
    · refine zg_aload_n (x := (some a0)) hX dWP_areLoadedSignsOf_10 rfl ?_
      refine zg_getR (ci := 8) (k := 7) hc_8 (by decide) (by decide) hin_8 zx_98 ft_8_7 hX dWP_areLoadedSignsOf_11 h (fun a11 h => ?_)
      refine zg_iload_n hX dWP_areLoadedSignsOf_14 rfl ?_
      refine zg_iald (kd := 100) (by decide) (by decide) hX dWP_areLoadedSignsOf_15 h (fun a15 j15 h => ?_)
      refine zg_aload_n (x := o1) hX dWP_areLoadedSignsOf_16 rfl ?_
      refine zg_getI (ci := 2) (k := 5) hc_2 (by decide) (by decide) hin_2 zx_193 ft_2_5 hX dWP_areLoadedSignsOf_17 h (fun a17 h => ?_)
      refine zg_icmp_lt (tgt := 36) hX dWP_areLoadedSignsOf_20 rfl h (fun h => ?_) (fun h => ?_)
      · refine zg_iconst hX dWP_areLoadedSignsOf_36 (0 : Int32) (by decide) ?_
        obtain ⟨hb37, h⟩ := zf_b_e h
        cases h
        exact zg_zret hX hr (zf_b_n hb37).1 (by decide) dWP_areLoadedSignsOf_37
      · refine zg_aload_n (x := (some a0)) hX dWP_areLoadedSignsOf_23 rfl ?_
        refine zg_getR (ci := 8) (k := 7) hc_8 (by decide) (by decide) hin_8 zx_98 ft_8_7 hX dWP_areLoadedSignsOf_24 h (fun a24 h => ?_)
        refine zg_iload_n hX dWP_areLoadedSignsOf_27 rfl ?_
        refine zg_iald (kd := 100) (by decide) (by decide) hX dWP_areLoadedSignsOf_28 h (fun a28 j28 h => ?_)
        refine zg_aload_n (x := o1) hX dWP_areLoadedSignsOf_29 rfl ?_
        refine zg_getI (ci := 2) (k := 6) hc_2 (by decide) (by decide) hin_2 zx_195 ft_2_6 hX dWP_areLoadedSignsOf_30 h (fun a30 h => ?_)
        refine zg_icmp_le (tgt := 38) hX dWP_areLoadedSignsOf_33 rfl h (fun h => ?_) (fun h => ?_)
        · refine zg_iinc hX dWP_areLoadedSignsOf_38 (1 : Int32) rfl (by decide) (Nat.le_of_ble_eq_true rfl) (zl_fq 1 rfl) h (fun y38 h => ?_)
          refine zg_goto (tgt := 2) hX dWP_areLoadedSignsOf_41 rfl ?_
          exact zg_sub (zl_k (zl_k (zl_k zl_n))) (ih w a0 o1 y38 h)
        · refine zg_iconst hX dWP_areLoadedSignsOf_36 (0 : Int32) (by decide) ?_
          obtain ⟨hb37, h⟩ := zf_b_e h
          cases h
          exact zg_zret hX hr (zf_b_n hb37).1 (by decide) dWP_areLoadedSignsOf_37
set_option maxHeartbeats 4000000 in
set_option maxRecDepth 100000 in
theorem zm_WP_areLoadedSignsOf (l : Launch) (D : va_G) (G : zw_G) (A : Nat → Prop) (F : Nat) (w : zw_T) (a0 : Nat) (o1 : Option Nat) (r : Int32 × zw_T) (h : zf_WP_areLoadedSignsOf F w a0 o1 = some r) : zc l yWP_areLoadedSignsOf wsWP_areLoadedSignsOf 0 0 128 0 D G A [.ref a0, va_rf o1] w (zr_i r) := by
  refine zc_of (ret := some .boolean) [some (va_rf (some a0)), some (va_rf o1), none] (plainFor_of_name (by decide +kernel)) rfl (by cases o1 <;> exact Nat.le_of_ble_eq_true rfl) rfl rfl (fun X hX hr hm => ?_)
  unfold zf_WP_areLoadedSignsOf at h
  refine zg_iconst hX dWP_areLoadedSignsOf_0 (0 : Int32) (by decide) ?_
  refine zg_istore_n hX dWP_areLoadedSignsOf_1 (Nat.le_of_ble_eq_true rfl) (zl_fq 1 rfl) h (fun y1 h => ?_)
  exact zg_sub (zl_k (zl_k (zl_k zl_n))) (zm_WP_areLoadedSignsOf_L2 hX hr hm F w a0 o1 y1 h)
def zf_Ai_hasBit (F : Nat) (w : zw_T) (a0 : Nat) (x1 : Int32) : Option (Int32 × zw_T) :=
  if x1 < 0 then (
  zf_b (0 : Int32) (some ((0 : Int32), w)))
  else (
  zf_at w 1 (some a0) fun a6 =>
  if (zw_I w 1001 a6 0) ≤ x1 then (
  zf_b (0 : Int32) (some ((0 : Int32), w)))
  else (
  zf_b (1 : Int32) (some ((1 : Int32), w))))
set_option maxHeartbeats 4000000 in
set_option maxRecDepth 100000 in
theorem zm_Ai_hasBit (l : Launch) (D : va_G) (G : zw_G) (A : Nat → Prop) (F : Nat) (w : zw_T) (a0 : Nat) (x1 : Int32) (r : Int32 × zw_T) (h : zf_Ai_hasBit F w a0 x1 = some r) : zc l yAi_hasBit wsAi_hasBit 0 0 128 0 D G A [.ref a0, .int x1] w (zr_i r) := by
  refine zc_of (ret := some .boolean) [some (va_rf (some a0)), some (.int x1)] (plainFor_of_name (by decide +kernel)) rfl (Nat.le_of_ble_eq_true rfl) rfl rfl (fun X hX hr hm => ?_)
  unfold zf_Ai_hasBit at h
  refine zg_iload_n hX dAi_hasBit_0 rfl ?_
  refine zg_if_lt (tgt := 16) hX dAi_hasBit_1 rfl h (fun h => ?_) (fun h => ?_)
  · refine zg_iconst hX dAi_hasBit_16 (0 : Int32) (by decide) ?_
    obtain ⟨hb17, h⟩ := zf_b_e h
    cases h
    exact zg_zret hX hr (zf_b_n hb17).1 (by decide) dAi_hasBit_17
  · refine zg_iload_n hX dAi_hasBit_4 rfl ?_
    refine zg_aload_n (x := (some a0)) hX dAi_hasBit_5 rfl ?_
    refine zg_getI (ci := 0) (k := 1) hc_0 (by decide) (by decide) hin_0 zx_52 ft_0_1 hX dAi_hasBit_6 h (fun a6 h => ?_)
    refine zg_icmp_ge (tgt := 16) hX dAi_hasBit_9 rfl h (fun h => ?_) (fun h => ?_)
    · refine zg_iconst hX dAi_hasBit_16 (0 : Int32) (by decide) ?_
      obtain ⟨hb17, h⟩ := zf_b_e h
      cases h
      exact zg_zret hX hr (zf_b_n hb17).1 (by decide) dAi_hasBit_17
    · refine zg_iconst hX dAi_hasBit_12 (1 : Int32) (by decide) ?_
      refine zg_goto (tgt := 17) hX dAi_hasBit_13 rfl ?_
      obtain ⟨hb17, h⟩ := zf_b_e h
      cases h
      exact zg_zret hX hr (zf_b_n hb17).1 (by decide) dAi_hasBit_17
def zf_Ai_bitAt (F : Nat) (w : zw_T) (a0 : Nat) (x1 : Int32) : Option (Int32 × zw_T) :=
  zf_at w 1 (some a0) fun a1 =>
  zf_ix w 102 (zw_R w 1000 a1 0) (x1 / (32 : Int32)) fun a8 j8 =>
  some (((zi_ushr (zw_I w 102 a8 j8) ((31 : Int32) - (zi_rem x1 (32 : Int32)))) &&& (1 : Int32)), w)
set_option maxHeartbeats 4000000 in
set_option maxRecDepth 100000 in
theorem zm_Ai_bitAt (l : Launch) (D : va_G) (G : zw_G) (A : Nat → Prop) (F : Nat) (w : zw_T) (a0 : Nat) (x1 : Int32) (r : Int32 × zw_T) (h : zf_Ai_bitAt F w a0 x1 = some r) : zc l yAi_bitAt wsAi_bitAt 0 0 128 0 D G A [.ref a0, .int x1] w (zr_i r) := by
  refine zc_of (ret := some .int) [some (va_rf (some a0)), some (.int x1)] (plainFor_of_name (by decide +kernel)) rfl (Nat.le_of_ble_eq_true rfl) rfl rfl (fun X hX hr hm => ?_)
  unfold zf_Ai_bitAt at h
  refine zg_aload_n (x := (some a0)) hX dAi_bitAt_0 rfl ?_
  refine zg_getR (ci := 0) (k := 0) hc_0 (by decide) (by decide) hin_0 zx_51 ft_0_0 hX dAi_bitAt_1 h (fun a1 h => ?_)
  refine zg_iload_n hX dAi_bitAt_4 rfl ?_
  refine zg_bipush hX dAi_bitAt_5 (32 : Int32) (by decide) ?_
  refine zg_idiv hX dAi_bitAt_7 (by decide) ?_
  refine zg_iald (kd := 102) (by decide) (by decide) hX dAi_bitAt_8 h (fun a8 j8 h => ?_)
  refine zg_bipush hX dAi_bitAt_9 (31 : Int32) (by decide) ?_
  refine zg_iload_n hX dAi_bitAt_11 rfl ?_
  refine zg_bipush hX dAi_bitAt_12 (32 : Int32) (by decide) ?_
  refine zg_irem hX dAi_bitAt_14 (by decide) ?_
  refine zg_isub hX dAi_bitAt_15 ?_
  refine zg_iushr hX dAi_bitAt_16 ?_
  refine zg_iconst hX dAi_bitAt_17 (1 : Int32) (by decide) ?_
  refine zg_iand hX dAi_bitAt_18 ?_
  cases h
  exact zg_iret hX hr (by decide) dAi_bitAt_19
def zf_WP_bit (F : Nat) (w : zw_T) (a0 : Nat) (x1 : Int32) : Option (Int32 × zw_T) :=
  zf_at w 9 (some a0) fun a1 =>
  zf_at w 1 (zw_R w 1522 a1 0) fun a5 =>
  zf_bd (zf_Ai_hasBit F w a5 x1) fun v5 w5 =>
  if v5 = 0 then (
  some ((-1 : Int32), w5))
  else (
  zf_at w5 9 (some a0) fun a12 =>
  zf_at w5 1 (zw_R w5 1522 a12 0) fun a16 =>
  zf_bd (zf_Ai_bitAt F w5 a16 x1) fun v16 w16 =>
  some (v16, w16))
set_option maxHeartbeats 4000000 in
set_option maxRecDepth 100000 in
theorem zm_WP_bit (l : Launch) (D : va_G) (G : zw_G) (A : Nat → Prop) (F : Nat) (w : zw_T) (a0 : Nat) (x1 : Int32) (r : Int32 × zw_T) (h : zf_WP_bit F w a0 x1 = some r) : zc l yWP_bit wsWP_bit 1 21 128 0 D G A [.ref a0, .int x1] w (zr_i r) := by
  refine zc_of (ret := some .int) [some (va_rf (some a0)), some (.int x1)] (plainFor_of_name (by decide +kernel)) rfl (Nat.le_of_ble_eq_true rfl) rfl rfl (fun X hX hr hm => ?_)
  unfold zf_WP_bit at h
  refine zg_aload_n (x := (some a0)) hX dWP_bit_0 rfl ?_
  refine zg_getR (ci := 8) (k := 10) hc_8 (by decide) (by decide) hin_8 zx_101 ft_8_10 hX dWP_bit_1 h (fun a1 h => ?_)
  refine zg_iload_n hX dWP_bit_4 rfl ?_
  obtain ⟨a5, e5, t5, h⟩ := zf_at_e h
  obtain ⟨v5, w5, q5, h⟩ := zf_bd_e h
  refine zg_callV_i (mcy := 0) (v := v5) (w1 := w5) (st := []) hc_0 (by decide) e5 t5 [.int x1] (fun l => zm_Ai_hasBit l D G A F w a5 x1 (v5, w5) q5) (zt_V zx_476 zx_477 zx_478 zx_3 zx_479) rfl hd_Ai_hasBit (by decide) (by decide) (by decide) (Nat.le_of_ble_eq_true rfl) rfl rfl hX dWP_bit_5 ?_
  refine zg_if_eq (tgt := 22) hX dWP_bit_8 rfl h (fun h => ?_) (fun h => ?_)
  · refine zg_iconst hX dWP_bit_22 (-1 : Int32) (by decide) ?_
    cases h
    exact zg_iret hX hr (by decide) dWP_bit_23
  · refine zg_aload_n (x := (some a0)) hX dWP_bit_11 rfl ?_
    refine zg_getR (ci := 8) (k := 10) hc_8 (by decide) (by decide) hin_8 zx_101 ft_8_10 hX dWP_bit_12 h (fun a12 h => ?_)
    refine zg_iload_n hX dWP_bit_15 rfl ?_
    obtain ⟨a16, e16, t16, h⟩ := zf_at_e h
    obtain ⟨v16, w16, q16, h⟩ := zf_bd_e h
    refine zg_callV_i (mcy := 0) (v := v16) (w1 := w16) (st := []) hc_0 (by decide) e16 t16 [.int x1] (fun l => zm_Ai_bitAt l D G A F w5 a16 x1 (v16, w16) q16) (zt_V zx_480 zx_481 zx_482 zx_3 zx_483) rfl hd_Ai_bitAt (by decide) (by decide) (by decide) (Nat.le_of_ble_eq_true rfl) rfl rfl hX dWP_bit_16 ?_
    refine zg_goto (tgt := 23) hX dWP_bit_19 rfl ?_
    cases h
    exact zg_iret hX hr (by decide) dWP_bit_23
def zf_WP_byteOf (F : Nat) (w : zw_T) (x0 : Int64) (x2 : Int32) : Option (Int32 × zw_T) :=
  some (((Int64.toInt32 (zi_lushr x0 ((8 : Int32) * x2))) &&& (255 : Int32)), w)
set_option maxHeartbeats 4000000 in
set_option maxRecDepth 100000 in
theorem zm_WP_byteOf (l : Launch) (D : va_G) (G : zw_G) (A : Nat → Prop) (F : Nat) (w : zw_T) (x0 : Int64) (x2 : Int32) (r : Int32 × zw_T) (h : zf_WP_byteOf F w x0 x2 = some r) : zc l yWP_byteOf wsWP_byteOf 0 0 128 0 D G A [.long x0, .int x2] w (zr_i r) := by
  refine zc_of (ret := some .int) [some (.long x0), none, some (.int x2)] (plainFor_of_name (by decide +kernel)) rfl (Nat.le_of_ble_eq_true rfl) rfl rfl (fun X hX hr hm => ?_)
  unfold zf_WP_byteOf at h
  refine zg_lload_n hX dWP_byteOf_0 rfl ?_
  refine zg_bipush hX dWP_byteOf_1 (8 : Int32) (by decide) ?_
  refine zg_iload_n hX dWP_byteOf_3 rfl ?_
  refine zg_imul hX dWP_byteOf_4 ?_
  refine zg_lushr hX dWP_byteOf_5 ?_
  refine zg_l2i hX dWP_byteOf_6 ?_
  refine zg_sipush hX dWP_byteOf_7 (255 : Int32) (by decide) ?_
  refine zg_iand hX dWP_byteOf_10 ?_
  cases h
  exact zg_iret hX hr (by decide) dWP_byteOf_11
def zf_WP_identityAt (F : Nat) (w : zw_T) (a0 : Nat) (x1 : Int32) : Option (Option Nat × zw_T) :=
  if x1 < 0 then (
  some (none, w))
  else (
  zf_at w 9 (some a0) fun a6 =>
  if (zw_I w 1513 a6 0) ≤ x1 then (
  some (none, w))
  else (
  zf_at w 9 (some a0) fun a13 =>
  zf_ix w 402 (zw_R w 1512 a13 0) x1 fun a17 j17 =>
  some ((zw_R w 402 a17 j17), w)))
set_option maxHeartbeats 4000000 in
set_option maxRecDepth 100000 in
theorem zm_WP_identityAt (l : Launch) (D : va_G) (G : zw_G) (A : Nat → Prop) (F : Nat) (w : zw_T) (a0 : Nat) (x1 : Int32) (r : Option Nat × zw_T) (h : zf_WP_identityAt F w a0 x1 = some r) : zc l yWP_identityAt wsWP_identityAt 0 0 128 0 D G A [.ref a0, .int x1] w (zr_r r) := by
  refine zc_of (ret := some (.object "WakingPagers$Identity")) [some (va_rf (some a0)), some (.int x1)] (plainFor_of_name (by decide +kernel)) rfl (Nat.le_of_ble_eq_true rfl) rfl rfl (fun X hX hr hm => ?_)
  unfold zf_WP_identityAt at h
  refine zg_iload_n hX dWP_identityAt_0 rfl ?_
  refine zg_if_lt (tgt := 21) hX dWP_identityAt_1 rfl h (fun h => ?_) (fun h => ?_)
  · refine zg_null hX dWP_identityAt_21 ?_
    cases h
    exact zg_aret _ hX hr (Or.inl ⟨_, rfl⟩) (by decide) dWP_identityAt_22
  · refine zg_iload_n hX dWP_identityAt_4 rfl ?_
    refine zg_aload_n (x := (some a0)) hX dWP_identityAt_5 rfl ?_
    refine zg_getI (ci := 8) (k := 1) hc_8 (by decide) (by decide) hin_8 zx_92 ft_8_1 hX dWP_identityAt_6 h (fun a6 h => ?_)
    refine zg_icmp_ge (tgt := 21) hX dWP_identityAt_9 rfl h (fun h => ?_) (fun h => ?_)
    · refine zg_null hX dWP_identityAt_21 ?_
      cases h
      exact zg_aret _ hX hr (Or.inl ⟨_, rfl⟩) (by decide) dWP_identityAt_22
    · refine zg_aload_n (x := (some a0)) hX dWP_identityAt_12 rfl ?_
      refine zg_getR (ci := 8) (k := 0) hc_8 (by decide) (by decide) hin_8 zx_91 ft_8_0 hX dWP_identityAt_13 h (fun a13 h => ?_)
      refine zg_iload_n hX dWP_identityAt_16 rfl ?_
      refine zg_aald (ci := 2) (t0 := 4) rfl hX dWP_identityAt_17 h (fun a17 j17 h => ?_)
      refine zg_goto (tgt := 22) hX dWP_identityAt_18 rfl ?_
      cases h
      exact zg_aret _ hX hr (Or.inl ⟨_, rfl⟩) (by decide) dWP_identityAt_22
def zf_Ma_min (F : Nat) (w : zw_T) (x0 : Int32) (x1 : Int32) : Option (Int32 × zw_T) :=
  if x1 < x0 then (
  some (x1, w))
  else (
  some (x0, w))
set_option maxHeartbeats 4000000 in
set_option maxRecDepth 100000 in
theorem zm_Ma_min (l : Launch) (D : va_G) (G : zw_G) (A : Nat → Prop) (F : Nat) (w : zw_T) (x0 : Int32) (x1 : Int32) (r : Int32 × zw_T) (h : zf_Ma_min F w x0 x1 = some r) : zc l yMa_min wsMa_min 0 0 128 0 D G A [.int x0, .int x1] w (zr_i r) := by
  refine zc_of (ret := some .int) [some (.int x0), some (.int x1)] (by decide +kernel) rfl (Nat.le_of_ble_eq_true rfl) rfl rfl (fun X hX hr hm => ?_)
  unfold zf_Ma_min at h
  refine zg_iload_n hX dMa_min_0 rfl ?_
  refine zg_iload_n hX dMa_min_1 rfl ?_
  refine zg_icmp_gt (tgt := 9) hX dMa_min_2 rfl h (fun h => ?_) (fun h => ?_)
  · refine zg_iload_n hX dMa_min_9 rfl ?_
    cases h
    exact zg_iret hX hr (by decide) dMa_min_10
  · refine zg_iload_n hX dMa_min_5 rfl ?_
    refine zg_goto (tgt := 10) hX dMa_min_6 rfl ?_
    cases h
    exact zg_iret hX hr (by decide) dMa_min_10
def zf_Ar_copyOf (F : Nat) (w : zw_T) (o0 : Option Nat) (x1 : Int32) : Option (Option Nat × zw_T) :=
  zf_at w 100 o0 fun a2 =>
  if x1 = (nI (zw_ty w a2).2) then (
  zf_cl w 100 105 o0 fun w7 =>
  some ((some (zw_n w)), w7))
  else (
  zf_na 128 w 105 x1 fun w15 =>
  zf_let (some (zw_n w)) fun y17 =>
  zf_at w15 100 o0 fun a23 =>
  zf_bd (zf_Ma_min F w15 (nI (zw_ty w15 a23).2) x1) fun v25 w25 =>
  zf_cp w25 100 105 o0 (0 : Int32) y17 (0 : Int32) v25 fun w28 =>
  some (y17, w28))
set_option maxHeartbeats 4000000 in
set_option maxRecDepth 100000 in
theorem zm_Ar_copyOf (l : Launch) (D : va_G) (G : zw_G) (A : Nat → Prop) (F : Nat) (w : zw_T) (o0 : Option Nat) (x1 : Int32) (r : Option Nat × zw_T) (h : zf_Ar_copyOf F w o0 x1 = some r) : zc l yAr_copyOf wsAr_copyOf 1 40 128 1 D G A [va_rf o0, .int x1] w (zr_r r) := by
  refine zc_of (ret := some (.array .int)) [some (va_rf o0), some (.int x1), none] (plainFor_of_name (by decide +kernel)) rfl (by cases o0 <;> exact Nat.le_of_ble_eq_true rfl) (by cases o0 <;> rfl) rfl (fun X hX hr hm => ?_)
  unfold zf_Ar_copyOf at h
  refine zg_iload_n hX dAr_copyOf_0 rfl ?_
  refine zg_aload_n (x := o0) hX dAr_copyOf_1 rfl ?_
  refine zg_leni (kd := 100) (by decide) (by decide) hX dAr_copyOf_2 h (fun a2 h => ?_)
  refine zg_icmp_ne (tgt := 14) hX dAr_copyOf_3 rfl h (fun h => ?_) (fun h => ?_)
  · refine zg_aload_n (x := o0) hX dAr_copyOf_6 rfl ?_
    refine zg_clone (by decide) (by decide) (by decide) (by decide) (by decide) zx_373 zx_374 zx_375 zx_376 zx_377 (by decide) (by decide) (Nat.le_of_ble_eq_true rfl) rfl hX dAr_copyOf_7 h (fun w7 ht7 h => ?_)
    refine zg_castI (a := (zw_n w)) zx_379 (by assumption) hX dAr_copyOf_10 ?_
    cases h
    exact zg_aret _ hX hr (Or.inr ⟨_, rfl⟩) (by decide) dAr_copyOf_13
  · refine zg_iload_n hX dAr_copyOf_14 rfl ?_
    refine zg_newi (kd := 105) (bd := 128) (by decide) (by decide) (by decide) (by decide) zx_44 (by decide) hX dAr_copyOf_15 h (fun w15 h => ?_)
    refine zg_astore_n hX dAr_copyOf_17 (Nat.le_of_ble_eq_true rfl) rfl h (fun y17 h => ?_)
    refine zg_aload_n (x := o0) hX dAr_copyOf_18 rfl ?_
    refine zg_iconst hX dAr_copyOf_19 (0 : Int32) (by decide) ?_
    refine zg_aload_n (x := y17) hX dAr_copyOf_20 rfl ?_
    refine zg_iconst hX dAr_copyOf_21 (0 : Int32) (by decide) ?_
    refine zg_aload_n (x := o0) hX dAr_copyOf_22 rfl ?_
    refine zg_leni (kd := 100) (by decide) (by decide) hX dAr_copyOf_23 h (fun a23 h => ?_)
    refine zg_iload_n hX dAr_copyOf_24 rfl ?_
    obtain ⟨v25, w25, q25, h⟩ := zf_bd_e h
    refine zg_callS_i (mcy := 0) (v := v25) (w1 := w25) (st := [.int (0 : Int32), va_rf y17, .int (0 : Int32), va_rf o0]) [.int (nI (zw_ty w15 a23).2), .int x1] (fun l => zm_Ma_min l D G A F w15 (nI (zw_ty w15 a23).2) x1 (v25, w25) q25) (zt_S zx_380 zx_381 zx_14 zx_382) rfl hd_Ma_min (by decide) (by decide) (by decide) (Nat.le_trans (zv_s rfl (zv_s (zv_cat _) (zv_s rfl (zv_s (zv_cat _) zv_s0)))) (by decide)) rfl rfl hX dAr_copyOf_25 ?_
    refine zg_copy (k0 := 100) (k1 := 105) (by decide) (by decide) (by decide) (by decide) zx_383 zx_385 zx_384 zx_15 (by decide) (by decide) rfl hX dAr_copyOf_28 h (fun w28 h => ?_)
    refine zg_aload_n (x := y17) hX dAr_copyOf_31 rfl ?_
    cases h
    exact zg_aret _ hX hr (Or.inr ⟨_, rfl⟩) (by decide) dAr_copyOf_32
def zf_Id_numberSigns (F : Nat) (w : zw_T) (a0 : Nat) : Option (Int32 × zw_T) :=
  zf_at w 3 (some a0) fun a1 =>
  if (zw_I w 1130 a1 0) = 0 then (
  some ((2 : Int32), w))
  else (
  some ((1 : Int32), w))
set_option maxHeartbeats 4000000 in
set_option maxRecDepth 100000 in
theorem zm_Id_numberSigns (l : Launch) (D : va_G) (G : zw_G) (A : Nat → Prop) (F : Nat) (w : zw_T) (a0 : Nat) (r : Int32 × zw_T) (h : zf_Id_numberSigns F w a0 = some r) : zc l yId_numberSigns wsId_numberSigns 0 0 128 0 D G A [.ref a0] w (zr_i r) := by
  refine zc_of (ret := some .int) [some (va_rf (some a0))] (plainFor_of_name (by decide +kernel)) rfl (Nat.le_of_ble_eq_true rfl) rfl rfl (fun X hX hr hm => ?_)
  unfold zf_Id_numberSigns at h
  refine zg_aload_n (x := (some a0)) hX dId_numberSigns_0 rfl ?_
  refine zg_getI (ci := 2) (k := 2) hc_2 (by decide) (by decide) hin_2 zx_185 ft_2_2 hX dId_numberSigns_1 h (fun a1 h => ?_)
  refine zg_if_eq (tgt := 11) hX dId_numberSigns_4 rfl h (fun h => ?_) (fun h => ?_)
  · refine zg_iconst hX dId_numberSigns_11 (2 : Int32) (by decide) ?_
    cases h
    exact zg_iret hX hr (by decide) dId_numberSigns_12
  · refine zg_iconst hX dId_numberSigns_7 (1 : Int32) (by decide) ?_
    refine zg_goto (tgt := 12) hX dId_numberSigns_8 rfl ?_
    cases h
    exact zg_iret hX hr (by decide) dId_numberSigns_12
def zf_Id_numberSign (F : Nat) (w : zw_T) (a0 : Nat) (x1 : Int32) (x2 : Int32) : Option (Int32 × zw_T) :=
  zf_at w 3 (some a0) fun a1 =>
  if (zw_I w 1130 a1 0) = 0 then (
  if x1 = 0 then (
  some ((x2 / (10 : Int32)), w))
  else (
  some ((zi_rem x2 (10 : Int32)), w)))
  else (
  some (((32 : Int32) + x2), w))
set_option maxHeartbeats 4000000 in
set_option maxRecDepth 100000 in
theorem zm_Id_numberSign (l : Launch) (D : va_G) (G : zw_G) (A : Nat → Prop) (F : Nat) (w : zw_T) (a0 : Nat) (x1 : Int32) (x2 : Int32) (r : Int32 × zw_T) (h : zf_Id_numberSign F w a0 x1 x2 = some r) : zc l yId_numberSign wsId_numberSign 0 0 128 0 D G A [.ref a0, .int x1, .int x2] w (zr_i r) := by
  refine zc_of (ret := some .int) [some (va_rf (some a0)), some (.int x1), some (.int x2)] (plainFor_of_name (by decide +kernel)) rfl (Nat.le_of_ble_eq_true rfl) rfl rfl (fun X hX hr hm => ?_)
  unfold zf_Id_numberSign at h
  refine zg_aload_n (x := (some a0)) hX dId_numberSign_0 rfl ?_
  refine zg_getI (ci := 2) (k := 2) hc_2 (by decide) (by decide) hin_2 zx_185 ft_2_2 hX dId_numberSign_1 h (fun a1 h => ?_)
  refine zg_if_eq (tgt := 12) hX dId_numberSign_4 rfl h (fun h => ?_) (fun h => ?_)
  · refine zg_iload_n hX dId_numberSign_12 rfl ?_
    refine zg_if_ne (tgt := 23) hX dId_numberSign_13 rfl h (fun h => ?_) (fun h => ?_)
    · refine zg_iload_n hX dId_numberSign_16 rfl ?_
      refine zg_bipush hX dId_numberSign_17 (10 : Int32) (by decide) ?_
      refine zg_idiv hX dId_numberSign_19 (by decide) ?_
      refine zg_goto (tgt := 27) hX dId_numberSign_20 rfl ?_
      cases h
      exact zg_iret hX hr (by decide) dId_numberSign_27
    · refine zg_iload_n hX dId_numberSign_23 rfl ?_
      refine zg_bipush hX dId_numberSign_24 (10 : Int32) (by decide) ?_
      refine zg_irem hX dId_numberSign_26 (by decide) ?_
      cases h
      exact zg_iret hX hr (by decide) dId_numberSign_27
  · refine zg_bipush hX dId_numberSign_7 (32 : Int32) (by decide) ?_
    refine zg_iload_n hX dId_numberSign_9 rfl ?_
    refine zg_iadd hX dId_numberSign_10 ?_
    cases h
    exact zg_iret hX hr (by decide) dId_numberSign_11
def zf_Ms_sentSign (F : Nat) (w : zw_T) (x0 : Int32) (o1 : Option Nat) (x2 : Int32) (o3 : Option Nat) : Option (Int32 × zw_T) :=
  zf_at w 3 o1 fun a2 =>
  zf_bd (zf_Id_numberSigns F w a2) fun v2 w2 =>
  zf_let (x0 - v2) fun y6 =>
  if 0 ≤ y6 then (
  zf_at w2 105 o3 fun a23 =>
  if (nI (zw_ty w2 a23).2) ≤ y6 then (
  zf_at w2 3 o1 fun a35 =>
  some ((zw_I w2 1136 a35 0), w2))
  else (
  zf_ix w2 105 o3 y6 fun a30 j30 =>
  some ((zw_I w2 105 a30 j30), w2)))
  else (
  zf_at w2 3 o1 fun a16 =>
  zf_bd (zf_Id_numberSign F w2 a16 x0 x2) fun v16 w16 =>
  some (v16, w16))
set_option maxHeartbeats 4000000 in
set_option maxRecDepth 100000 in
theorem zm_Ms_sentSign (l : Launch) (D : va_G) (G : zw_G) (A : Nat → Prop) (F : Nat) (w : zw_T) (x0 : Int32) (o1 : Option Nat) (x2 : Int32) (o3 : Option Nat) (r : Int32 × zw_T) (h : zf_Ms_sentSign F w x0 o1 x2 o3 = some r) : zc l yMs_sentSign wsMs_sentSign 1 22 128 0 D G A [.int x0, va_rf o1, .int x2, va_rf o3] w (zr_i r) := by
  refine zc_of (ret := some .int) [some (.int x0), some (va_rf o1), some (.int x2), some (va_rf o3), none] (plainFor_of_name (by decide +kernel)) rfl (by cases o1 <;> cases o3 <;> exact Nat.le_of_ble_eq_true rfl) (by cases o1 <;> cases o3 <;> rfl) rfl (fun X hX hr hm => ?_)
  unfold zf_Ms_sentSign at h
  refine zg_iload_n hX dMs_sentSign_0 rfl ?_
  refine zg_aload_n (x := o1) hX dMs_sentSign_1 rfl ?_
  obtain ⟨a2, e2, t2, h⟩ := zf_at_e h
  obtain ⟨v2, w2, q2, h⟩ := zf_bd_e h
  refine zg_callV_i (mcy := 0) (v := v2) (w1 := w2) (st := [.int x0]) hc_2 (by decide) e2 t2 [] (fun l => zm_Id_numberSigns l D G A F w a2 (v2, w2) q2) (zt_V zx_393 zx_394 zx_395 zx_8 zx_396) rfl hd_Id_numberSigns (by decide) (by decide) (by decide) (Nat.le_of_ble_eq_true rfl) rfl rfl hX dMs_sentSign_2 ?_
  refine zg_isub hX dMs_sentSign_5 ?_
  refine zg_istore hX dMs_sentSign_6 (Nat.le_of_ble_eq_true rfl) (zl_fq 3 rfl) h (fun y6 h => ?_)
  refine zg_iload hX dMs_sentSign_8 rfl ?_
  refine zg_if_ge (tgt := 20) hX dMs_sentSign_10 rfl h (fun h => ?_) (fun h => ?_)
  · refine zg_iload hX dMs_sentSign_20 rfl ?_
    refine zg_aload_n (x := o3) hX dMs_sentSign_22 rfl ?_
    refine zg_leni (kd := 105) (by decide) (by decide) hX dMs_sentSign_23 h (fun a23 h => ?_)
    refine zg_icmp_ge (tgt := 34) hX dMs_sentSign_24 rfl h (fun h => ?_) (fun h => ?_)
    · refine zg_aload_n (x := o1) hX dMs_sentSign_34 rfl ?_
      refine zg_getI (ci := 2) (k := 8) hc_2 (by decide) (by decide) hin_2 zx_200 ft_2_8 hX dMs_sentSign_35 h (fun a35 h => ?_)
      cases h
      exact zg_iret hX hr (by decide) dMs_sentSign_38
    · refine zg_aload_n (x := o3) hX dMs_sentSign_27 rfl ?_
      refine zg_iload hX dMs_sentSign_28 rfl ?_
      refine zg_iald (kd := 105) (by decide) (by decide) hX dMs_sentSign_30 h (fun a30 j30 h => ?_)
      refine zg_goto (tgt := 38) hX dMs_sentSign_31 rfl ?_
      cases h
      exact zg_iret hX hr (by decide) dMs_sentSign_38
  · refine zg_aload_n (x := o1) hX dMs_sentSign_13 rfl ?_
    refine zg_iload_n hX dMs_sentSign_14 rfl ?_
    refine zg_iload_n hX dMs_sentSign_15 rfl ?_
    obtain ⟨a16, e16, t16, h⟩ := zf_at_e h
    obtain ⟨v16, w16, q16, h⟩ := zf_bd_e h
    refine zg_callV_i (mcy := 0) (v := v16) (w1 := w16) (st := []) hc_2 (by decide) e16 t16 [.int x0, .int x2] (fun l => zm_Id_numberSign l D G A F w2 a16 x0 x2 (v16, w16) q16) (zt_V zx_400 zx_401 zx_402 zx_8 zx_403) rfl hd_Id_numberSign (by decide) (by decide) (by decide) (Nat.le_of_ble_eq_true rfl) rfl rfl hX dMs_sentSign_16 ?_
    cases h
    exact zg_iret hX hr (by decide) dMs_sentSign_19
def zf_Rp_remainder_j31 (F : Nat) (k5 : zw_T → Int32 → Int32 → Option (Int32 × zw_T)) (w : zw_T) (x1 : Int32) (x2 : Int32) : Option (Int32 × zw_T) :=
  zf_let (x2 + (-1 : Int32)) fun y31 =>
  k5 w x1 y31
def zf_Rp_remainder_L5 (F : Nat) : Nat → zw_T → Int32 → Int32 → Option (Int32 × zw_T)
  | 0, _, _, _ => none
  | n + 1, w, x1, x2 =>
  if x2 < (10 : Int32) then (
  some (x1, w))
  else (
  if ((zi_ushr x1 x2) &&& (1 : Int32)) = (1 : Int32) then (
  zf_let (x1 ^^^ (zi_shl (1897 : Int32) (x2 - (10 : Int32)))) fun y30 =>
  zf_Rp_remainder_j31 F (zf_Rp_remainder_L5 F n) w y30 x2)
  else (
  zf_Rp_remainder_j31 F (zf_Rp_remainder_L5 F n) w x1 x2))
def zf_Rp_remainder (F : Nat) (w : zw_T) (x0 : Int32) : Option (Int32 × zw_T) :=
  zf_let x0 fun y1 =>
  zf_let (30 : Int32) fun y4 =>
  zf_Rp_remainder_L5 F F w y1 y4
set_option maxHeartbeats 4000000 in
set_option maxRecDepth 100000 in
theorem zm_Rp_remainder_j31 {X : zg_X} {D : va_G} {G : zw_G} {A : Nat → Prop} {F : Nat} {k5 : zw_T → Int32 → Int32 → Option (Int32 × zw_T)} {r : Int32 × zw_T} (hX : zg_ok X cRp_remainder "WakingPagers$Repairer" 3 0 0 128 0 D G A) (hr : zg_rt X = some .int) (hm : zg_nm X = yRp_remainder.name) (hk5 : ∀ (w : zw_T) (x1 : Int32) (x2 : Int32), k5 w x1 x2 = some r → zg X D G A (zg_Q X D G A 128 0 (zr_i r)) 128 0 w 5 [none, some (.int x1), some (.int x2)] []) (w : zw_T) (x1 : Int32) (x2 : Int32) (h : zf_Rp_remainder_j31 F k5 w x1 x2 = some r) : zg X D G A (zg_Q X D G A 128 0 (zr_i r)) 128 0 w 31 [none, some (.int x1), some (.int x2)] [] := by
  unfold zf_Rp_remainder_j31 at h
  refine zg_iinc hX dRp_remainder_31 (-1 : Int32) rfl (by decide) (Nat.le_of_ble_eq_true rfl) rfl h (fun y31 h => ?_)
  refine zg_goto (tgt := 5) hX dRp_remainder_34 rfl ?_
  exact zg_sub (zl_d (zl_k (zl_k zl_n))) (hk5 w x1 y31 h)
set_option maxHeartbeats 4000000 in
set_option maxRecDepth 100000 in
theorem zm_Rp_remainder_L5 {X : zg_X} {D : va_G} {G : zw_G} {A : Nat → Prop} {F : Nat} {r : Int32 × zw_T} (hX : zg_ok X cRp_remainder "WakingPagers$Repairer" 3 0 0 128 0 D G A) (hr : zg_rt X = some .int) (hm : zg_nm X = yRp_remainder.name) : ∀ (n : Nat) (w : zw_T) (x1 : Int32) (x2 : Int32), zf_Rp_remainder_L5 F n w x1 x2 = some r → zg X D G A (zg_Q X D G A 128 0 (zr_i r)) 128 0 w 5 [none, some (.int x1), some (.int x2)] [] := by
  intro n
  induction n with
  | zero =>
    intro w x1 x2 h
    unfold zf_Rp_remainder_L5 at h
    cases h
  | succ n ih =>
    intro w x1 x2 h
    rw [zf_Rp_remainder_L5] at h
    refine zg_iload_n hX dRp_remainder_5 rfl ?_
    refine zg_bipush hX dRp_remainder_6 (10 : Int32) (by decide) ?_
    refine zg_icmp_lt (tgt := 37) hX dRp_remainder_8 rfl h (fun h => ?_) (fun h => ?_)
    · refine zg_iload_n hX dRp_remainder_37 rfl ?_
      cases h
      exact zg_iret hX hr (by decide) dRp_remainder_38
    · refine zg_iload_n hX dRp_remainder_11 rfl ?_
      refine zg_iload_n hX dRp_remainder_12 rfl ?_
      refine zg_iushr hX dRp_remainder_13 ?_
      refine zg_iconst hX dRp_remainder_14 (1 : Int32) (by decide) ?_
      refine zg_iand hX dRp_remainder_15 ?_
      refine zg_iconst hX dRp_remainder_16 (1 : Int32) (by decide) ?_
      refine zg_icmp_ne (tgt := 31) hX dRp_remainder_17 rfl h (fun h => ?_) (fun h => ?_)
      · refine zg_iload_n hX dRp_remainder_20 rfl ?_
        refine zg_sipush hX dRp_remainder_21 (1897 : Int32) (by decide) ?_
        refine zg_iload_n hX dRp_remainder_24 rfl ?_
        refine zg_bipush hX dRp_remainder_25 (10 : Int32) (by decide) ?_
        refine zg_isub hX dRp_remainder_27 ?_
        refine zg_ishl hX dRp_remainder_28 ?_
        refine zg_ixor hX dRp_remainder_29 ?_
        refine zg_istore_n hX dRp_remainder_30 (Nat.le_of_ble_eq_true rfl) rfl h (fun y30 h => ?_)
        exact zg_sub (zl_d (zl_k (zl_k zl_n))) (zm_Rp_remainder_j31 hX hr hm ih w y30 x2 h)
      · exact zg_sub (zl_d (zl_k (zl_k zl_n))) (zm_Rp_remainder_j31 hX hr hm ih w x1 x2 h)
set_option maxHeartbeats 4000000 in
set_option maxRecDepth 100000 in
theorem zm_Rp_remainder (l : Launch) (D : va_G) (G : zw_G) (A : Nat → Prop) (F : Nat) (w : zw_T) (x0 : Int32) (r : Int32 × zw_T) (h : zf_Rp_remainder F w x0 = some r) : zc l yRp_remainder wsRp_remainder 0 0 128 0 D G A [.int x0] w (zr_i r) := by
  refine zc_of (ret := some .int) [some (.int x0), none, none] (plainFor_of_name (by decide +kernel)) rfl (Nat.le_of_ble_eq_true rfl) rfl rfl (fun X hX hr hm => ?_)
  unfold zf_Rp_remainder at h
  refine zg_iload_n hX dRp_remainder_0 rfl ?_
  refine zg_istore_n hX dRp_remainder_1 (Nat.le_of_ble_eq_true rfl) rfl h (fun y1 h => ?_)
  refine zg_bipush hX dRp_remainder_2 (30 : Int32) (by decide) ?_
  refine zg_istore_n hX dRp_remainder_4 (Nat.le_of_ble_eq_true rfl) rfl h (fun y4 h => ?_)
  exact zg_sub (zl_d (zl_k (zl_k zl_n))) (zm_Rp_remainder_L5 hX hr hm F w y1 y4 h)
def zf_In_bitCount (F : Nat) (w : zw_T) (x0 : Int32) : Option (Int32 × zw_T) :=
  zf_let (x0 - ((zi_ushr x0 (1 : Int32)) &&& (1431655765 : Int32))) fun y9 =>
  zf_let ((y9 &&& (858993459 : Int32)) + ((zi_ushr y9 (2 : Int32)) &&& (858993459 : Int32))) fun y23 =>
  zf_let ((y23 + (zi_ushr y23 (4 : Int32))) &&& (252645135 : Int32)) fun y33 =>
  zf_let (y33 + (zi_ushr y33 (8 : Int32))) fun y40 =>
  zf_let (y40 + (zi_ushr y40 (16 : Int32))) fun y47 =>
  some ((y47 &&& (63 : Int32)), w)
set_option maxHeartbeats 4000000 in
set_option maxRecDepth 100000 in
theorem zm_In_bitCount (l : Launch) (D : va_G) (G : zw_G) (A : Nat → Prop) (F : Nat) (w : zw_T) (x0 : Int32) (r : Int32 × zw_T) (h : zf_In_bitCount F w x0 = some r) : zc l yIn_bitCount wsIn_bitCount 0 0 128 0 D G A [.int x0] w (zr_i r) := by
  refine zc_of (ret := some .int) [some (.int x0)] (plainFor_of_name (by decide +kernel)) rfl (Nat.le_of_ble_eq_true rfl) rfl rfl (fun X hX hr hm => ?_)
  unfold zf_In_bitCount at h
  refine zg_iload_n hX dIn_bitCount_0 rfl ?_
  refine zg_iload_n hX dIn_bitCount_1 rfl ?_
  refine zg_iconst hX dIn_bitCount_2 (1 : Int32) (by decide) ?_
  refine zg_iushr hX dIn_bitCount_3 ?_
  refine zg_ldcw hX dIn_bitCount_4 (1431655765 : Int32) zx_142 ?_
  refine zg_iand hX dIn_bitCount_7 ?_
  refine zg_isub hX dIn_bitCount_8 ?_
  refine zg_istore_n hX dIn_bitCount_9 (Nat.le_of_ble_eq_true rfl) rfl h (fun y9 h => ?_)
  refine zg_iload_n hX dIn_bitCount_10 rfl ?_
  refine zg_ldcw hX dIn_bitCount_11 (858993459 : Int32) zx_143 ?_
  refine zg_iand hX dIn_bitCount_14 ?_
  refine zg_iload_n hX dIn_bitCount_15 rfl ?_
  refine zg_iconst hX dIn_bitCount_16 (2 : Int32) (by decide) ?_
  refine zg_iushr hX dIn_bitCount_17 ?_
  refine zg_ldcw hX dIn_bitCount_18 (858993459 : Int32) zx_143 ?_
  refine zg_iand hX dIn_bitCount_21 ?_
  refine zg_iadd hX dIn_bitCount_22 ?_
  refine zg_istore_n hX dIn_bitCount_23 (Nat.le_of_ble_eq_true rfl) rfl h (fun y23 h => ?_)
  refine zg_iload_n hX dIn_bitCount_24 rfl ?_
  refine zg_iload_n hX dIn_bitCount_25 rfl ?_
  refine zg_iconst hX dIn_bitCount_26 (4 : Int32) (by decide) ?_
  refine zg_iushr hX dIn_bitCount_27 ?_
  refine zg_iadd hX dIn_bitCount_28 ?_
  refine zg_ldcw hX dIn_bitCount_29 (252645135 : Int32) zx_144 ?_
  refine zg_iand hX dIn_bitCount_32 ?_
  refine zg_istore_n hX dIn_bitCount_33 (Nat.le_of_ble_eq_true rfl) rfl h (fun y33 h => ?_)
  refine zg_iload_n hX dIn_bitCount_34 rfl ?_
  refine zg_iload_n hX dIn_bitCount_35 rfl ?_
  refine zg_bipush hX dIn_bitCount_36 (8 : Int32) (by decide) ?_
  refine zg_iushr hX dIn_bitCount_38 ?_
  refine zg_iadd hX dIn_bitCount_39 ?_
  refine zg_istore_n hX dIn_bitCount_40 (Nat.le_of_ble_eq_true rfl) rfl h (fun y40 h => ?_)
  refine zg_iload_n hX dIn_bitCount_41 rfl ?_
  refine zg_iload_n hX dIn_bitCount_42 rfl ?_
  refine zg_bipush hX dIn_bitCount_43 (16 : Int32) (by decide) ?_
  refine zg_iushr hX dIn_bitCount_45 ?_
  refine zg_iadd hX dIn_bitCount_46 ?_
  refine zg_istore_n hX dIn_bitCount_47 (Nat.le_of_ble_eq_true rfl) rfl h (fun y47 h => ?_)
  refine zg_iload_n hX dIn_bitCount_48 rfl ?_
  refine zg_bipush hX dIn_bitCount_49 (63 : Int32) (by decide) ?_
  refine zg_iand hX dIn_bitCount_51 ?_
  cases h
  exact zg_iret hX hr (by decide) dIn_bitCount_52
def zf_WP_codewordOf (F : Nat) (w : zw_T) (x0 : Int32) : Option (Int32 × zw_T) :=
  zf_let (zi_shl x0 (11 : Int32)) fun y4 =>
  zf_bd (zf_Rp_remainder F w (zi_ushr y4 (1 : Int32))) fun v9 w9 =>
  zf_let (y4 ||| (zi_shl v9 (1 : Int32))) fun y15 =>
  zf_bd (zf_In_bitCount F w9 y15) fun v18 w18 =>
  some ((y15 ||| (v18 &&& (1 : Int32))), w18)
set_option maxHeartbeats 4000000 in
set_option maxRecDepth 100000 in
theorem zm_WP_codewordOf (l : Launch) (D : va_G) (G : zw_G) (A : Nat → Prop) (F : Nat) (w : zw_T) (x0 : Int32) (r : Int32 × zw_T) (h : zf_WP_codewordOf F w x0 = some r) : zc l yWP_codewordOf wsWP_codewordOf 1 22 128 0 D G A [.int x0] w (zr_i r) := by
  refine zc_of (ret := some .int) [some (.int x0), none, none] (plainFor_of_name (by decide +kernel)) rfl (Nat.le_of_ble_eq_true rfl) rfl rfl (fun X hX hr hm => ?_)
  unfold zf_WP_codewordOf at h
  refine zg_iload_n hX dWP_codewordOf_0 rfl ?_
  refine zg_bipush hX dWP_codewordOf_1 (11 : Int32) (by decide) ?_
  refine zg_ishl hX dWP_codewordOf_3 ?_
  refine zg_istore_n hX dWP_codewordOf_4 (Nat.le_of_ble_eq_true rfl) rfl h (fun y4 h => ?_)
  refine zg_iload_n hX dWP_codewordOf_5 rfl ?_
  refine zg_iload_n hX dWP_codewordOf_6 rfl ?_
  refine zg_iconst hX dWP_codewordOf_7 (1 : Int32) (by decide) ?_
  refine zg_iushr hX dWP_codewordOf_8 ?_
  obtain ⟨v9, w9, q9, h⟩ := zf_bd_e h
  refine zg_callS_i (mcy := 0) (v := v9) (w1 := w9) (st := [.int y4]) [.int (zi_ushr y4 (1 : Int32))] (fun l => zm_Rp_remainder l D G A F w (zi_ushr y4 (1 : Int32)) (v9, w9) q9) (zt_S zx_136 zx_137 zx_6 zx_138) rfl hd_Rp_remainder (by decide) (by decide) (by decide) (Nat.le_of_ble_eq_true rfl) rfl rfl hX dWP_codewordOf_9 ?_
  refine zg_iconst hX dWP_codewordOf_12 (1 : Int32) (by decide) ?_
  refine zg_ishl hX dWP_codewordOf_13 ?_
  refine zg_ior hX dWP_codewordOf_14 ?_
  refine zg_istore_n hX dWP_codewordOf_15 (Nat.le_of_ble_eq_true rfl) rfl h (fun y15 h => ?_)
  refine zg_iload_n hX dWP_codewordOf_16 rfl ?_
  refine zg_iload_n hX dWP_codewordOf_17 rfl ?_
  obtain ⟨v18, w18, q18, h⟩ := zf_bd_e h
  refine zg_callS_i (mcy := 0) (v := v18) (w1 := w18) (st := [.int y15]) [.int y15] (fun l => zm_In_bitCount l D G A F w9 y15 (v18, w18) q18) (zt_S zx_139 zx_140 zx_7 zx_141) rfl hd_In_bitCount (by decide) (by decide) (by decide) (Nat.le_of_ble_eq_true rfl) rfl rfl hX dWP_codewordOf_18 ?_
  refine zg_iconst hX dWP_codewordOf_21 (1 : Int32) (by decide) ?_
  refine zg_iand hX dWP_codewordOf_22 ?_
  refine zg_ior hX dWP_codewordOf_23 ?_
  cases h
  exact zg_iret hX hr (by decide) dWP_codewordOf_24
def zf_Ms_wordsOf_j104 (F : Nat) (k45 : zw_T → (Option Nat) → Int32 → (Option Nat) → (Option Nat) → Int32 → Int32 → Int32 → Option (Option Nat × zw_T)) (k59 : zw_T → (Option Nat) → Int32 → (Option Nat) → (Option Nat) → Int32 → Int32 → Int32 → Int32 → Int32 → Option (Option Nat × zw_T)) (w : zw_T) (o0 : Option Nat) (x1 : Int32) (o2 : Option Nat) (o4 : Option Nat) (x5 : Int32) (x6 : Int32) (x7 : Int32) (x8 : Int32) (x9 : Int32) : Option (Option Nat × zw_T) :=
  zf_let (x9 + (1 : Int32)) fun y104 =>
  k59 w o0 x1 o2 o4 x5 x6 x7 x8 y104
def zf_Ms_wordsOf_L59 (F : Nat) (k45 : zw_T → (Option Nat) → Int32 → (Option Nat) → (Option Nat) → Int32 → Int32 → Int32 → Option (Option Nat × zw_T)) : Nat → zw_T → (Option Nat) → Int32 → (Option Nat) → (Option Nat) → Int32 → Int32 → Int32 → Int32 → Int32 → Option (Option Nat × zw_T)
  | 0, _, _, _, _, _, _, _, _, _, _ => none
  | n + 1, w, o0, x1, o2, o4, x5, x6, x7, x8, x9 =>
  if (20 : Int32) ≤ x9 then (
  zf_bd (zf_WP_codewordOf F w ((1048576 : Int32) ||| x8)) fun v119 w119 =>
  zf_ix w119 106 o4 x7 fun a122 j122 => zf_let (zw_sI w119 106 a122 j122 v119) fun w122 =>
  zf_let (x7 + (1 : Int32)) fun y123 =>
  k45 w122 o0 x1 o2 o4 x5 x6 y123)
  else (
  zf_bd (zf_Ms_sentSign F w x5 o0 x1 o2) fun v75 w75 =>
  zf_let ((zi_shl x8 (1 : Int32)) ||| ((zi_ushr v75 x6) &&& (1 : Int32))) fun y84 =>
  zf_let (x6 + (1 : Int32)) fun y86 =>
  zf_at w75 3 o0 fun a92 =>
  if y86 = (zw_I w75 1135 a92 0) then (
  zf_let (0 : Int32) fun y99 =>
  zf_let (x5 + (1 : Int32)) fun y101 =>
  zf_Ms_wordsOf_j104 F k45 (zf_Ms_wordsOf_L59 F k45 n) w75 o0 x1 o2 o4 y101 y99 x7 y84 x9)
  else (
  zf_Ms_wordsOf_j104 F k45 (zf_Ms_wordsOf_L59 F k45 n) w75 o0 x1 o2 o4 x5 y86 x7 y84 x9))
def zf_Ms_wordsOf_L45 (F : Nat) : Nat → zw_T → (Option Nat) → Int32 → (Option Nat) → (Option Nat) → Int32 → Int32 → Int32 → Option (Option Nat × zw_T)
  | 0, _, _, _, _, _, _, _, _ => none
  | n + 1, w, o0, x1, o2, o4, x5, x6, x7 =>
  zf_at w 106 o4 fun a49 =>
  if (nI (zw_ty w a49).2) ≤ x7 then (
  some (o4, w))
  else (
  zf_let (0 : Int32) fun y54 =>
  zf_let (0 : Int32) fun y57 =>
  zf_Ms_wordsOf_L59 F (zf_Ms_wordsOf_L45 F n) F w o0 x1 o2 o4 x5 x6 x7 y54 y57)
def zf_Ms_wordsOf (F : Nat) (w : zw_T) (o0 : Option Nat) (x1 : Int32) (o2 : Option Nat) : Option (Option Nat × zw_T) :=
  zf_at w 3 o0 fun a1 =>
  zf_bd (zf_Id_numberSigns F w a1) fun v1 w1 =>
  zf_at w1 105 o2 fun a5 =>
  zf_at w1 3 o0 fun a8 =>
  zf_let ((v1 + (nI (zw_ty w1 a5).2)) * (zw_I w1 1135 a8 0)) fun y12 =>
  zf_na 128 w1 106 ((1 : Int32) + (((y12 + (20 : Int32)) - (1 : Int32)) / (20 : Int32))) fun w24 =>
  zf_let (some (zw_n w1)) fun y26 =>
  zf_at w24 3 o0 fun a32 =>
  zf_ix w24 106 y26 (0 : Int32) fun a35 j35 => zf_let (zw_sI w24 106 a35 j35 (zw_I w24 1132 a32 0)) fun w35 =>
  zf_let (0 : Int32) fun y37 =>
  zf_let (0 : Int32) fun y40 =>
  zf_let (1 : Int32) fun y43 =>
  zf_Ms_wordsOf_L45 F F w35 o0 x1 o2 y26 y37 y40 y43
set_option maxHeartbeats 4000000 in
set_option maxRecDepth 100000 in
theorem zm_Ms_wordsOf_j104 {X : zg_X} {D : va_G} {G : zw_G} {A : Nat → Prop} {F : Nat} {k45 : zw_T → (Option Nat) → Int32 → (Option Nat) → (Option Nat) → Int32 → Int32 → Int32 → Option (Option Nat × zw_T)} {k59 : zw_T → (Option Nat) → Int32 → (Option Nat) → (Option Nat) → Int32 → Int32 → Int32 → Int32 → Int32 → Option (Option Nat × zw_T)} {r : Option Nat × zw_T} (hX : zg_ok X cMs_wordsOf RMs 10 2 46 128 1 D G A) (hr : zg_rt X = some (.array .int)) (hm : zg_nm X = yMs_wordsOf.name) (hk45 : ∀ (w : zw_T) (o0 : Option Nat) (x1 : Int32) (o2 : Option Nat) (o4 : Option Nat) (x5 : Int32) (x6 : Int32) (x7 : Int32), k45 w o0 x1 o2 o4 x5 x6 x7 = some r → zg X D G A (zg_Q X D G A 128 1 (zr_r r)) 128 1 w 45 [some (va_rf o0), some (.int x1), some (va_rf o2), none, some (va_rf o4), some (.int x5), some (.int x6), some (.int x7), none, none] []) (hk59 : ∀ (w : zw_T) (o0 : Option Nat) (x1 : Int32) (o2 : Option Nat) (o4 : Option Nat) (x5 : Int32) (x6 : Int32) (x7 : Int32) (x8 : Int32) (x9 : Int32), k59 w o0 x1 o2 o4 x5 x6 x7 x8 x9 = some r → zg X D G A (zg_Q X D G A 128 1 (zr_r r)) 128 1 w 59 [some (va_rf o0), some (.int x1), some (va_rf o2), none, some (va_rf o4), some (.int x5), some (.int x6), some (.int x7), some (.int x8), some (.int x9)] []) (w : zw_T) (o0 : Option Nat) (x1 : Int32) (o2 : Option Nat) (o4 : Option Nat) (x5 : Int32) (x6 : Int32) (x7 : Int32) (x8 : Int32) (x9 : Int32) (h : zf_Ms_wordsOf_j104 F k45 k59 w o0 x1 o2 o4 x5 x6 x7 x8 x9 = some r) : zg X D G A (zg_Q X D G A 128 1 (zr_r r)) 128 1 w 104 [some (va_rf o0), some (.int x1), some (va_rf o2), none, some (va_rf o4), some (.int x5), some (.int x6), some (.int x7), some (.int x8), some (.int x9)] [] := by
  unfold zf_Ms_wordsOf_j104 at h
  refine zg_iinc hX dMs_wordsOf_104 (1 : Int32) rfl (by decide) (Nat.le_of_ble_eq_true rfl) rfl h (fun y104 h => ?_)
  refine zg_goto (tgt := 59) hX dMs_wordsOf_107 rfl ?_
  exact zg_sub (zl_k (zl_k (zl_k (zl_d (zl_k (zl_k (zl_k (zl_k (zl_k (zl_k zl_n)))))))))) (hk59 w o0 x1 o2 o4 x5 x6 x7 x8 y104 h)
set_option maxHeartbeats 4000000 in
set_option maxRecDepth 100000 in
theorem zm_Ms_wordsOf_L59 {X : zg_X} {D : va_G} {G : zw_G} {A : Nat → Prop} {F : Nat} {k45 : zw_T → (Option Nat) → Int32 → (Option Nat) → (Option Nat) → Int32 → Int32 → Int32 → Option (Option Nat × zw_T)} {r : Option Nat × zw_T} (hX : zg_ok X cMs_wordsOf RMs 10 2 46 128 1 D G A) (hr : zg_rt X = some (.array .int)) (hm : zg_nm X = yMs_wordsOf.name) (hk45 : ∀ (w : zw_T) (o0 : Option Nat) (x1 : Int32) (o2 : Option Nat) (o4 : Option Nat) (x5 : Int32) (x6 : Int32) (x7 : Int32), k45 w o0 x1 o2 o4 x5 x6 x7 = some r → zg X D G A (zg_Q X D G A 128 1 (zr_r r)) 128 1 w 45 [some (va_rf o0), some (.int x1), some (va_rf o2), none, some (va_rf o4), some (.int x5), some (.int x6), some (.int x7), none, none] []) : ∀ (n : Nat) (w : zw_T) (o0 : Option Nat) (x1 : Int32) (o2 : Option Nat) (o4 : Option Nat) (x5 : Int32) (x6 : Int32) (x7 : Int32) (x8 : Int32) (x9 : Int32), zf_Ms_wordsOf_L59 F k45 n w o0 x1 o2 o4 x5 x6 x7 x8 x9 = some r → zg X D G A (zg_Q X D G A 128 1 (zr_r r)) 128 1 w 59 [some (va_rf o0), some (.int x1), some (va_rf o2), none, some (va_rf o4), some (.int x5), some (.int x6), some (.int x7), some (.int x8), some (.int x9)] [] := by
  intro n
  induction n with
  | zero =>
    intro w o0 x1 o2 o4 x5 x6 x7 x8 x9 h
    unfold zf_Ms_wordsOf_L59 at h
    cases h
  | succ n ih =>
    intro w o0 x1 o2 o4 x5 x6 x7 x8 x9 h
    rw [zf_Ms_wordsOf_L59] at h
    refine zg_iload hX dMs_wordsOf_59 rfl ?_
    refine zg_bipush hX dMs_wordsOf_61 (20 : Int32) (by decide) ?_
    refine zg_icmp_ge (tgt := 110) hX dMs_wordsOf_63 rfl h (fun h => ?_) (fun h => ?_)
    · refine zg_aload (x := o4) hX dMs_wordsOf_110 rfl ?_
      refine zg_iload hX dMs_wordsOf_112 rfl ?_
      refine zg_ldc hX dMs_wordsOf_114 (1048576 : Int32) zx_404 ?_
      refine zg_iload hX dMs_wordsOf_116 rfl ?_
      refine zg_ior hX dMs_wordsOf_118 ?_
      obtain ⟨v119, w119, q119, h⟩ := zf_bd_e h
      refine zg_callSN_i (mcy := 0) (v := v119) (w1 := w119) (st := [.int x7, va_rf o4]) [.int ((1048576 : Int32) ||| x8)] (fun l => zm_WP_codewordOf l D G A F w ((1048576 : Int32) ||| x8) (v119, w119) q119) (zt_G zx_135) zn_5 zx_134 zx_1 rfl hd_WP_codewordOf (by decide) (by decide) (by decide) (Nat.le_trans (zv_s rfl (zv_s (zv_cat _) zv_s0)) (by decide)) rfl rfl hX dMs_wordsOf_119 ?_
      refine zg_iast (kd := 106) (by decide) (by decide) hX dMs_wordsOf_122 h (fun w122 h => ?_)
      refine zg_iinc hX dMs_wordsOf_123 (1 : Int32) rfl (by decide) (Nat.le_of_ble_eq_true rfl) rfl h (fun y123 h => ?_)
      refine zg_goto (tgt := 45) hX dMs_wordsOf_126 rfl ?_
      exact zg_sub (zl_k (zl_k (zl_k (zl_d (zl_k (zl_k (zl_k (zl_k (zl_d (zl_d zl_n)))))))))) (hk45 w122 o0 x1 o2 o4 x5 x6 y123 h)
    · refine zg_iload hX dMs_wordsOf_66 rfl ?_
      refine zg_iconst hX dMs_wordsOf_68 (1 : Int32) (by decide) ?_
      refine zg_ishl hX dMs_wordsOf_69 ?_
      refine zg_iload hX dMs_wordsOf_70 rfl ?_
      refine zg_aload_n (x := o0) hX dMs_wordsOf_72 rfl ?_
      refine zg_iload_n hX dMs_wordsOf_73 rfl ?_
      refine zg_aload_n (x := o2) hX dMs_wordsOf_74 rfl ?_
      obtain ⟨v75, w75, q75, h⟩ := zf_bd_e h
      refine zg_callS_i (mcy := 0) (v := v75) (w1 := w75) (st := [.int (zi_shl x8 (1 : Int32))]) [.int x5, va_rf o0, .int x1, va_rf o2] (fun l => zm_Ms_sentSign l D G A F w x5 o0 x1 o2 (v75, w75) q75) (zt_S zx_397 zx_398 zx_12 zx_399) rfl hd_Ms_sentSign (by decide) (by decide) (by decide) (Nat.le_of_ble_eq_true rfl) rfl rfl hX dMs_wordsOf_75 ?_
      refine zg_iload hX dMs_wordsOf_78 rfl ?_
      refine zg_iushr hX dMs_wordsOf_80 ?_
      refine zg_iconst hX dMs_wordsOf_81 (1 : Int32) (by decide) ?_
      refine zg_iand hX dMs_wordsOf_82 ?_
      refine zg_ior hX dMs_wordsOf_83 ?_
      refine zg_istore hX dMs_wordsOf_84 (Nat.le_of_ble_eq_true rfl) rfl h (fun y84 h => ?_)
      refine zg_iinc hX dMs_wordsOf_86 (1 : Int32) rfl (by decide) (Nat.le_of_ble_eq_true rfl) rfl h (fun y86 h => ?_)
      refine zg_iload hX dMs_wordsOf_89 rfl ?_
      refine zg_aload_n (x := o0) hX dMs_wordsOf_91 rfl ?_
      refine zg_getI (ci := 2) (k := 7) hc_2 (by decide) (by decide) hin_2 zx_197 ft_2_7 hX dMs_wordsOf_92 h (fun a92 h => ?_)
      refine zg_icmp_ne (tgt := 104) hX dMs_wordsOf_95 rfl h (fun h => ?_) (fun h => ?_)
      · refine zg_iconst hX dMs_wordsOf_98 (0 : Int32) (by decide) ?_
        refine zg_istore hX dMs_wordsOf_99 (Nat.le_of_ble_eq_true rfl) rfl h (fun y99 h => ?_)
        refine zg_iinc hX dMs_wordsOf_101 (1 : Int32) rfl (by decide) (Nat.le_of_ble_eq_true rfl) (zl_fq 4 rfl) h (fun y101 h => ?_)
        exact zg_sub (zl_k (zl_k (zl_k (zl_d (zl_k (zl_k (zl_k (zl_k (zl_k (zl_k zl_n)))))))))) (zm_Ms_wordsOf_j104 hX hr hm hk45 ih w75 o0 x1 o2 o4 y101 y99 x7 y84 x9 h)
      · exact zg_sub (zl_k (zl_k (zl_k (zl_d (zl_k (zl_k (zl_k (zl_k (zl_k (zl_k zl_n)))))))))) (zm_Ms_wordsOf_j104 hX hr hm hk45 ih w75 o0 x1 o2 o4 x5 y86 x7 y84 x9 h)
set_option maxHeartbeats 4000000 in
set_option maxRecDepth 100000 in
theorem zm_Ms_wordsOf_L45 {X : zg_X} {D : va_G} {G : zw_G} {A : Nat → Prop} {F : Nat} {r : Option Nat × zw_T} (hX : zg_ok X cMs_wordsOf RMs 10 2 46 128 1 D G A) (hr : zg_rt X = some (.array .int)) (hm : zg_nm X = yMs_wordsOf.name) : ∀ (n : Nat) (w : zw_T) (o0 : Option Nat) (x1 : Int32) (o2 : Option Nat) (o4 : Option Nat) (x5 : Int32) (x6 : Int32) (x7 : Int32), zf_Ms_wordsOf_L45 F n w o0 x1 o2 o4 x5 x6 x7 = some r → zg X D G A (zg_Q X D G A 128 1 (zr_r r)) 128 1 w 45 [some (va_rf o0), some (.int x1), some (va_rf o2), none, some (va_rf o4), some (.int x5), some (.int x6), some (.int x7), none, none] [] := by
  intro n
  induction n with
  | zero =>
    intro w o0 x1 o2 o4 x5 x6 x7 h
    unfold zf_Ms_wordsOf_L45 at h
    cases h
  | succ n ih =>
    intro w o0 x1 o2 o4 x5 x6 x7 h
    rw [zf_Ms_wordsOf_L45] at h
    refine zg_iload hX dMs_wordsOf_45 rfl ?_
    refine zg_aload (x := o4) hX dMs_wordsOf_47 rfl ?_
    refine zg_leni (kd := 106) (by decide) (by decide) hX dMs_wordsOf_49 h (fun a49 h => ?_)
    refine zg_icmp_ge (tgt := 129) hX dMs_wordsOf_50 rfl h (fun h => ?_) (fun h => ?_)
    · refine zg_aload (x := o4) hX dMs_wordsOf_129 rfl ?_
      cases h
      exact zg_aret _ hX hr (Or.inr ⟨_, rfl⟩) (by decide) dMs_wordsOf_131
    · refine zg_iconst hX dMs_wordsOf_53 (0 : Int32) (by decide) ?_
      refine zg_istore hX dMs_wordsOf_54 (Nat.le_of_ble_eq_true rfl) rfl h (fun y54 h => ?_)
      refine zg_iconst hX dMs_wordsOf_56 (0 : Int32) (by decide) ?_
      refine zg_istore hX dMs_wordsOf_57 (Nat.le_of_ble_eq_true rfl) rfl h (fun y57 h => ?_)
      exact zg_sub (zl_k (zl_k (zl_k (zl_d (zl_k (zl_k (zl_k (zl_k (zl_k (zl_k zl_n)))))))))) (zm_Ms_wordsOf_L59 hX hr hm ih F w o0 x1 o2 o4 x5 x6 x7 y54 y57 h)
set_option maxHeartbeats 4000000 in
set_option maxRecDepth 100000 in
theorem zm_Ms_wordsOf (l : Launch) (D : va_G) (G : zw_G) (A : Nat → Prop) (F : Nat) (w : zw_T) (o0 : Option Nat) (x1 : Int32) (o2 : Option Nat) (r : Option Nat × zw_T) (h : zf_Ms_wordsOf F w o0 x1 o2 = some r) : zc l yMs_wordsOf wsMs_wordsOf 2 46 128 1 D G A [va_rf o0, .int x1, va_rf o2] w (zr_r r) := by
  refine zc_of (ret := some (.array .int)) [some (va_rf o0), some (.int x1), some (va_rf o2), none, none, none, none, none, none, none] (plainFor_of_name (by decide +kernel)) rfl (by cases o0 <;> cases o2 <;> exact Nat.le_of_ble_eq_true rfl) (by cases o0 <;> cases o2 <;> rfl) rfl (fun X hX hr hm => ?_)
  unfold zf_Ms_wordsOf at h
  refine zg_aload_n (x := o0) hX dMs_wordsOf_0 rfl ?_
  obtain ⟨a1, e1, t1, h⟩ := zf_at_e h
  obtain ⟨v1, w1, q1, h⟩ := zf_bd_e h
  refine zg_callV_i (mcy := 0) (v := v1) (w1 := w1) (st := []) hc_2 (by decide) e1 t1 [] (fun l => zm_Id_numberSigns l D G A F w a1 (v1, w1) q1) (zt_V zx_393 zx_394 zx_395 zx_8 zx_396) rfl hd_Id_numberSigns (by decide) (by decide) (by decide) (Nat.le_of_ble_eq_true rfl) rfl rfl hX dMs_wordsOf_1 ?_
  refine zg_aload_n (x := o2) hX dMs_wordsOf_4 rfl ?_
  refine zg_leni (kd := 105) (by decide) (by decide) hX dMs_wordsOf_5 h (fun a5 h => ?_)
  refine zg_iadd hX dMs_wordsOf_6 ?_
  refine zg_aload_n (x := o0) hX dMs_wordsOf_7 rfl ?_
  refine zg_getI (ci := 2) (k := 7) hc_2 (by decide) (by decide) hin_2 zx_197 ft_2_7 hX dMs_wordsOf_8 h (fun a8 h => ?_)
  refine zg_imul hX dMs_wordsOf_11 ?_
  refine zg_istore_n hX dMs_wordsOf_12 (Nat.le_of_ble_eq_true rfl) (zl_fq 2 rfl) h (fun y12 h => ?_)
  refine zg_iconst hX dMs_wordsOf_13 (1 : Int32) (by decide) ?_
  refine zg_iload_n hX dMs_wordsOf_14 rfl ?_
  refine zg_bipush hX dMs_wordsOf_15 (20 : Int32) (by decide) ?_
  refine zg_iadd hX dMs_wordsOf_17 ?_
  refine zg_iconst hX dMs_wordsOf_18 (1 : Int32) (by decide) ?_
  refine zg_isub hX dMs_wordsOf_19 ?_
  refine zg_bipush hX dMs_wordsOf_20 (20 : Int32) (by decide) ?_
  refine zg_idiv hX dMs_wordsOf_22 (by decide) ?_
  refine zg_iadd hX dMs_wordsOf_23 ?_
  refine zg_newi (kd := 106) (bd := 128) (by decide) (by decide) (by decide) (by decide) zx_44 (by decide) hX dMs_wordsOf_24 h (fun w24 h => ?_)
  refine zg_astore hX dMs_wordsOf_26 (Nat.le_of_ble_eq_true rfl) rfl h (fun y26 h => ?_)
  refine zg_aload (x := y26) hX dMs_wordsOf_28 rfl ?_
  refine zg_iconst hX dMs_wordsOf_30 (0 : Int32) (by decide) ?_
  refine zg_aload_n (x := o0) hX dMs_wordsOf_31 rfl ?_
  refine zg_getI (ci := 2) (k := 4) hc_2 (by decide) (by decide) hin_2 zx_190 ft_2_4 hX dMs_wordsOf_32 h (fun a32 h => ?_)
  refine zg_iast (kd := 106) (by decide) (by decide) hX dMs_wordsOf_35 h (fun w35 h => ?_)
  refine zg_iconst hX dMs_wordsOf_36 (0 : Int32) (by decide) ?_
  refine zg_istore hX dMs_wordsOf_37 (Nat.le_of_ble_eq_true rfl) (zl_fq 4 rfl) h (fun y37 h => ?_)
  refine zg_iconst hX dMs_wordsOf_39 (0 : Int32) (by decide) ?_
  refine zg_istore hX dMs_wordsOf_40 (Nat.le_of_ble_eq_true rfl) rfl h (fun y40 h => ?_)
  refine zg_iconst hX dMs_wordsOf_42 (1 : Int32) (by decide) ?_
  refine zg_istore hX dMs_wordsOf_43 (Nat.le_of_ble_eq_true rfl) rfl h (fun y43 h => ?_)
  exact zg_sub (zl_k (zl_k (zl_k (zl_d (zl_k (zl_k (zl_k (zl_k (zl_d (zl_d zl_n)))))))))) (zm_Ms_wordsOf_L45 hX hr hm F w35 o0 x1 o2 y26 y37 y40 y43 h)
def zf_Ms_init (F : Nat) (w : zw_T) (a0 : Nat) (o1 : Option Nat) (x2 : Int32) (x3 : Int32) (o4 : Option Nat) : Option (zw_T) :=
  zf_b (1 : Int32) (
  zf_at w 6 (some a0) fun a6 => zf_let (zw_sI w 1325 a6 0 (1 : Int32)) fun w6 =>
  zf_at w6 6 (some a0) fun a11 => zf_let (zw_sR w6 1320 a11 0 o1) fun w11 =>
  zf_at w11 6 (some a0) fun a16 => zf_let (zw_sI w11 1321 a16 0 x2) fun w16 =>
  zf_at w16 6 (some a0) fun a21 => zf_let (zw_sI w16 1322 a21 0 x3) fun w21 =>
  zf_at w21 6 (some a0) fun a27 => zf_let (zw_sR w21 1323 a27 0 o4) fun w27 =>
  zf_bd (zf_Ms_wordsOf F w27 o1 x3 o4) fun v35 w35 =>
  zf_at w35 6 (some a0) fun a38 => zf_let (zw_sR w35 1324 a38 0 v35) fun w38 =>
  some w38)
set_option maxHeartbeats 4000000 in
set_option maxRecDepth 100000 in
theorem zm_Ms_init (l : Launch) (D : va_G) (G : zw_G) (A : Nat → Prop) (F : Nat) (w : zw_T) (a0 : Nat) (o1 : Option Nat) (x2 : Int32) (x3 : Int32) (o4 : Option Nat) (r : zw_T) (h : zf_Ms_init F w a0 o1 x2 x3 o4 = some r) : zc l yMs_init wsMs_init 3 75 128 1 D G A [.ref a0, va_rf o1, .int x2, .int x3, va_rf o4] w (zr_v r) := by
  refine zc_of (ret := none) [some (va_rf (some a0)), some (va_rf o1), some (.int x2), some (.int x3), some (va_rf o4)] (plainFor_of_name (by decide +kernel)) rfl (by cases o1 <;> cases o4 <;> exact Nat.le_of_ble_eq_true rfl) (by cases o1 <;> cases o4 <;> rfl) rfl (fun X hX hr hm => ?_)
  unfold zf_Ms_init at h
  refine zg_aload_n (x := (some a0)) hX dMs_init_0 rfl ?_
  refine zg_oinit zx_389 zx_22 zx_23 (by decide) (by decide) rfl hX dMs_init_1 ?_
  refine zg_aload_n (x := (some a0)) hX dMs_init_4 rfl ?_
  refine zg_iconst hX dMs_init_5 (1 : Int32) (by decide) ?_
  obtain ⟨hb6, h⟩ := zf_b_e h
  refine zg_putI (ci := 5) (k := 5) hc_5 (by decide) (by decide) hin_5 zx_417 ft_5_5 tyMs okMs nmMs rfl (zf_b_n hb6).1 (zf_b_n hb6).2 hX dMs_init_6 h (fun w6 h => ?_)
  refine zg_aload_n (x := (some a0)) hX dMs_init_9 rfl ?_
  refine zg_aload_n (x := o1) hX dMs_init_10 rfl ?_
  refine zg_pfiR (ci := 5) (k := 0) hc_5 (by decide) (by decide) hin_5 zx_406 ft_5_0 tyMs okMs nmMs rfl hm rfl (zv_no _ _).1 (zv_no _ _).2 hX dMs_init_11 h (fun w11 h => ?_)
  refine zg_aload_n (x := (some a0)) hX dMs_init_14 rfl ?_
  refine zg_iload_n hX dMs_init_15 rfl ?_
  refine zg_pfiI (ci := 5) (k := 1) hc_5 (by decide) (by decide) hin_5 zx_409 ft_5_1 tyMs okMs nmMs rfl hm rfl (vp_nar_int _) rfl hX dMs_init_16 h (fun w16 h => ?_)
  refine zg_aload_n (x := (some a0)) hX dMs_init_19 rfl ?_
  refine zg_iload_n hX dMs_init_20 rfl ?_
  refine zg_pfiI (ci := 5) (k := 2) hc_5 (by decide) (by decide) hin_5 zx_411 ft_5_2 tyMs okMs nmMs rfl hm rfl (vp_nar_int _) rfl hX dMs_init_21 h (fun w21 h => ?_)
  refine zg_aload_n (x := (some a0)) hX dMs_init_24 rfl ?_
  refine zg_aload (x := o4) hX dMs_init_25 rfl ?_
  refine zg_pfiR (ci := 5) (k := 3) hc_5 (by decide) (by decide) hin_5 zx_413 ft_5_3 tyMs okMs nmMs rfl hm rfl (zv_na _ _).1 (zv_na _ _).2 hX dMs_init_27 h (fun w27 h => ?_)
  refine zg_aload_n (x := (some a0)) hX dMs_init_30 rfl ?_
  refine zg_aload_n (x := o1) hX dMs_init_31 rfl ?_
  refine zg_iload_n hX dMs_init_32 rfl ?_
  refine zg_aload (x := o4) hX dMs_init_33 rfl ?_
  obtain ⟨v35, w35, q35, h⟩ := zf_bd_e h
  refine zg_callS_r (mcy := 1) (v := v35) (w1 := w35) (st := [va_rf (some a0)]) [va_rf o1, .int x3, va_rf o4] (fun l => zm_Ms_wordsOf l D G A F w27 o1 x3 o4 (v35, w35) q35) (zt_S zx_390 zx_391 zx_12 zx_392) rfl hd_Ms_wordsOf (by decide) (by decide) (by decide) (Nat.le_of_ble_eq_true rfl) rfl rfl hX dMs_init_35 ?_
  refine zg_pfiR (ci := 5) (k := 4) hc_5 (by decide) (by decide) hin_5 zx_415 ft_5_4 tyMs okMs nmMs rfl hm rfl (zv_na _ _).1 (zv_na _ _).2 hX dMs_init_38 h (fun w38 h => ?_)
  cases h
  exact zg_vret hX hr (by decide) dMs_init_41
def zf_WP_call (F : Nat) (w : zw_T) (a0 : Nat) (x1 : Int32) (x2 : Int32) : Option (Int32 × zw_T) :=
  zf_at w 9 (some a0) fun a2 =>
  zf_bd (zf_WP_identityAt F w a2 x1) fun v2 w2 =>
  zf_let v2 fun y5 =>
  if y5 = none then (
  some ((-1 : Int32), w2))
  else (
  if x2 < 0 then (
  some ((-1 : Int32), w2))
  else (
  if (3 : Int32) < x2 then (
  some ((-1 : Int32), w2))
  else (
  zf_at w2 9 (some a0) fun a21 =>
  zf_bd (zf_WP_areLoadedSignsOf F w2 a21 y5) fun v21 w21 =>
  if v21 = 0 then (
  some ((-1 : Int32), w21))
  else (
  zf_at w21 9 (some a0) fun a30 =>
  if (60 : Int32) ≤ (zw_I w21 1518 a30 0) then (
  some ((-1 : Int32), w21))
  else (
  zf_at w21 9 (some a0) fun a39 =>
  if (zw_I w21 1517 a39 0) < (200 : Int32) then (
  zf_at w21 3 y5 fun a51 =>
  zf_let (zi_rem (zw_I w21 1137 a51 0) (64 : Int32)) fun y57 =>
  zf_at w21 9 (some a0) fun a60 =>
  zf_at w21 9 (some a0) fun a64 =>
  zf_let (zw_new w21 6 0) fun w67 =>
  zf_at w67 9 (some a0) fun a76 =>
  zf_at w67 9 (some a0) fun a80 =>
  zf_bd (zf_Ar_copyOf F w67 (zw_R w67 1519 a76 0) (zw_I w67 1520 a80 0)) fun v83 w83 =>
  zf_bv (zf_Ms_init F w83 (zw_n w21) y5 x2 y57 v83) fun w86 =>
  zf_at w86 6 (some (zw_n w21)) fun b89 => zf_ix w86 405 (zw_R w21 1516 a60 0) (zw_I w21 1517 a64 0) fun a89 j89 => zf_let (zw_sR w86 405 a89 j89 (some b89)) fun w89 =>
  zf_at w89 9 (some a0) fun a92 =>
  zf_at w89 9 (some a0) fun a97 => zf_let (zw_sI w89 1517 a97 0 ((zw_I w89 1517 a92 0) + (1 : Int32))) fun w97 =>
  zf_at w97 9 (some a0) fun a102 =>
  zf_at w97 9 (some a0) fun a107 => zf_let (zw_sI w97 1518 a107 0 ((zw_I w97 1518 a102 0) + (1 : Int32))) fun w107 =>
  zf_at w107 3 y5 fun a112 =>
  zf_at w107 3 y5 fun a117 => zf_let (zw_sI w107 1137 a117 0 ((zw_I w107 1137 a112 0) + (1 : Int32))) fun w117 =>
  zf_at w117 9 (some a0) fun a122 => zf_let (zw_sI w117 1520 a122 0 (0 : Int32)) fun w122 =>
  some (y57, w122))
  else (
  some ((-1 : Int32), w21)))))))
set_option maxHeartbeats 4000000 in
set_option maxRecDepth 100000 in
theorem zm_WP_call (l : Launch) (D : va_G) (G : zw_G) (A : Nat → Prop) (F : Nat) (w : zw_T) (a0 : Nat) (x1 : Int32) (x2 : Int32) (r : Int32 × zw_T) (h : zf_WP_call F w a0 x1 x2 = some r) : zc l yWP_call wsWP_call 4 99 128 3 D G A [.ref a0, .int x1, .int x2] w (zr_i r) := by
  refine zc_of (ret := some .int) [some (va_rf (some a0)), some (.int x1), some (.int x2), none, none] (plainFor_of_name (by decide +kernel)) rfl (Nat.le_of_ble_eq_true rfl) rfl rfl (fun X hX hr hm => ?_)
  unfold zf_WP_call at h
  refine zg_aload_n (x := (some a0)) hX dWP_call_0 rfl ?_
  refine zg_iload_n hX dWP_call_1 rfl ?_
  obtain ⟨a2, e2, t2, h⟩ := zf_at_e h
  obtain ⟨v2, w2, q2, h⟩ := zf_bd_e h
  refine zg_callV_r (mcy := 0) (v := v2) (w1 := w2) (st := []) hc_8 (by decide) e2 t2 [.int x1] (fun l => zm_WP_identityAt l D G A F w a2 x1 (v2, w2) q2) (zt_V zx_320 zx_322 zs_2 zx_1 zx_323) rfl hd_WP_identityAt (by decide) (by decide) (by decide) (Nat.le_of_ble_eq_true rfl) rfl rfl hX dWP_call_2 ?_
  refine zg_astore_n hX dWP_call_5 (Nat.le_of_ble_eq_true rfl) rfl h (fun y5 h => ?_)
  refine zg_aload_n (x := y5) hX dWP_call_6 rfl ?_
  refine zg_ifnull (tgt := 27) hX dWP_call_7 rfl h (fun h => ?_) (fun h => ?_)
  · refine zg_iconst hX dWP_call_27 (-1 : Int32) (by decide) ?_
    cases h
    exact zg_iret hX hr (by decide) dWP_call_28
  · refine zg_iload_n hX dWP_call_10 rfl ?_
    refine zg_if_lt (tgt := 27) hX dWP_call_11 rfl h (fun h => ?_) (fun h => ?_)
    · refine zg_iconst hX dWP_call_27 (-1 : Int32) (by decide) ?_
      cases h
      exact zg_iret hX hr (by decide) dWP_call_28
    · refine zg_iload_n hX dWP_call_14 rfl ?_
      refine zg_iconst hX dWP_call_15 (3 : Int32) (by decide) ?_
      refine zg_icmp_gt (tgt := 27) hX dWP_call_16 rfl h (fun h => ?_) (fun h => ?_)
      · refine zg_iconst hX dWP_call_27 (-1 : Int32) (by decide) ?_
        cases h
        exact zg_iret hX hr (by decide) dWP_call_28
      · refine zg_aload_n (x := (some a0)) hX dWP_call_19 rfl ?_
        refine zg_aload_n (x := y5) hX dWP_call_20 rfl ?_
        obtain ⟨a21, e21, t21, h⟩ := zf_at_e h
        obtain ⟨v21, w21, q21, h⟩ := zf_bd_e h
        refine zg_callV_i (mcy := 0) (v := v21) (w1 := w21) (st := []) hc_8 (by decide) e21 t21 [va_rf y5] (fun l => zm_WP_areLoadedSignsOf l D G A F w2 a21 y5 (v21, w21) q21) (zt_V zx_365 zx_367 zs_3 zx_1 zx_368) rfl hd_WP_areLoadedSignsOf (by decide) (by decide) (by decide) (Nat.le_of_ble_eq_true rfl) rfl rfl hX dWP_call_21 ?_
        refine zg_if_ne (tgt := 29) hX dWP_call_24 rfl h (fun h => ?_) (fun h => ?_)
        · refine zg_iconst hX dWP_call_27 (-1 : Int32) (by decide) ?_
          cases h
          exact zg_iret hX hr (by decide) dWP_call_28
        · refine zg_aload_n (x := (some a0)) hX dWP_call_29 rfl ?_
          refine zg_getI (ci := 8) (k := 6) hc_8 (by decide) (by decide) hin_8 zx_97 ft_8_6 hX dWP_call_30 h (fun a30 h => ?_)
          refine zg_bipush hX dWP_call_33 (60 : Int32) (by decide) ?_
          refine zg_icmp_ge (tgt := 48) hX dWP_call_35 rfl h (fun h => ?_) (fun h => ?_)
          · refine zg_iconst hX dWP_call_48 (-1 : Int32) (by decide) ?_
            cases h
            exact zg_iret hX hr (by decide) dWP_call_49
          · refine zg_aload_n (x := (some a0)) hX dWP_call_38 rfl ?_
            refine zg_getI (ci := 8) (k := 5) hc_8 (by decide) (by decide) hin_8 zx_96 ft_8_5 hX dWP_call_39 h (fun a39 h => ?_)
            refine zg_sipush hX dWP_call_42 (200 : Int32) (by decide) ?_
            refine zg_icmp_lt (tgt := 50) hX dWP_call_45 rfl h (fun h => ?_) (fun h => ?_)
            · refine zg_aload_n (x := y5) hX dWP_call_50 rfl ?_
              refine zg_getI (ci := 2) (k := 9) hc_2 (by decide) (by decide) hin_2 zx_203 ft_2_9 hX dWP_call_51 h (fun a51 h => ?_)
              refine zg_bipush hX dWP_call_54 (64 : Int32) (by decide) ?_
              refine zg_irem hX dWP_call_56 (by decide) ?_
              refine zg_istore hX dWP_call_57 (Nat.le_of_ble_eq_true rfl) (zl_fq 3 rfl) h (fun y57 h => ?_)
              refine zg_aload_n (x := (some a0)) hX dWP_call_59 rfl ?_
              refine zg_getR (ci := 8) (k := 4) hc_8 (by decide) (by decide) hin_8 zx_95 ft_8_4 hX dWP_call_60 h (fun a60 h => ?_)
              refine zg_aload_n (x := (some a0)) hX dWP_call_63 rfl ?_
              refine zg_getI (ci := 8) (k := 5) hc_8 (by decide) (by decide) hin_8 zx_96 ft_8_5 hX dWP_call_64 h (fun a64 h => ?_)
              refine zg_new (ci := 5) hc_5 (by decide) hin_5 tyMs okMs df_5 zx_28 zx_369 zx_12 (by decide) (by decide) hX dWP_call_67 h (fun w67 h => ?_)
              refine zg_dup hX dWP_call_70 rfl ?_
              refine zg_aload_n (x := y5) hX dWP_call_71 rfl ?_
              refine zg_iload_n hX dWP_call_72 rfl ?_
              refine zg_iload hX dWP_call_73 rfl ?_
              refine zg_aload_n (x := (some a0)) hX dWP_call_75 rfl ?_
              refine zg_getR (ci := 8) (k := 7) hc_8 (by decide) (by decide) hin_8 zx_98 ft_8_7 hX dWP_call_76 h (fun a76 h => ?_)
              refine zg_aload_n (x := (some a0)) hX dWP_call_79 rfl ?_
              refine zg_getI (ci := 8) (k := 8) hc_8 (by decide) (by decide) hin_8 zx_99 ft_8_8 hX dWP_call_80 h (fun a80 h => ?_)
              obtain ⟨v83, w83, q83, h⟩ := zf_bd_e h
              refine zg_callS_r (mcy := 1) (v := v83) (w1 := w83) (st := [.int y57, .int x2, va_rf y5, va_rf (some (zw_n w21)), va_rf (some (zw_n w21)), .int (zw_I w21 1517 a64 0), va_rf (zw_R w21 1516 a60 0)]) [va_rf (zw_R w67 1519 a76 0), .int (zw_I w67 1520 a80 0)] (fun l => zm_Ar_copyOf l D G A F w67 (zw_R w67 1519 a76 0) (zw_I w67 1520 a80 0) (v83, w83) q83) (zt_S zx_370 zx_371 zx_13 zx_372) rfl hd_Ar_copyOf (by decide) (by decide) (by decide) (Nat.le_trans (zv_s rfl (zv_s rfl (zv_s (zv_cat _) (zv_s (zv_cat _) (zv_s (zv_cat _) (zv_s rfl (zv_s (zv_cat _) zv_s0))))))) (by decide)) rfl rfl hX dWP_call_83 ?_
              obtain ⟨w86, q86, h⟩ := zf_bv_e h
              refine zg_callI_v (mcy := 1) (w1 := w86) (st := [va_rf (some (zw_n w21)), .int (zw_I w21 1517 a64 0), va_rf (zw_R w21 1516 a60 0)]) [va_rf y5, .int x2, .int y57, va_rf v83] (fun l => zm_Ms_init l D G A F w83 (zw_n w21) y5 x2 y57 v83 w86 q86) rfl rfl (zt_G zx_388) zx_386 zx_12 zx_387 rfl hd_Ms_init (by decide) (by decide) (by decide) (Nat.le_trans (zv_s (zv_cat _) (zv_s rfl (zv_s (zv_cat _) zv_s0))) (by decide)) rfl rfl hX dWP_call_86 ?_
              refine zg_aast (ci := 5) (kd := 405) hc_5 (by decide) rfl (t0 := 5) rfl rfl hX dWP_call_89 h (fun w89 h => ?_)
              refine zg_aload_n (x := (some a0)) hX dWP_call_90 rfl ?_
              refine zg_dup hX dWP_call_91 rfl ?_
              refine zg_getI (ci := 8) (k := 5) hc_8 (by decide) (by decide) hin_8 zx_96 ft_8_5 hX dWP_call_92 h (fun a92 h => ?_)
              refine zg_iconst hX dWP_call_95 (1 : Int32) (by decide) ?_
              refine zg_iadd hX dWP_call_96 ?_
              refine zg_putI (ci := 8) (k := 5) hc_8 (by decide) (by decide) hin_8 zx_96 ft_8_5 tyWP okWP nmWP rfl (vp_nar_int _) rfl hX dWP_call_97 h (fun w97 h => ?_)
              refine zg_aload_n (x := (some a0)) hX dWP_call_100 rfl ?_
              refine zg_dup hX dWP_call_101 rfl ?_
              refine zg_getI (ci := 8) (k := 6) hc_8 (by decide) (by decide) hin_8 zx_97 ft_8_6 hX dWP_call_102 h (fun a102 h => ?_)
              refine zg_iconst hX dWP_call_105 (1 : Int32) (by decide) ?_
              refine zg_iadd hX dWP_call_106 ?_
              refine zg_putI (ci := 8) (k := 6) hc_8 (by decide) (by decide) hin_8 zx_97 ft_8_6 tyWP okWP nmWP rfl (vp_nar_int _) rfl hX dWP_call_107 h (fun w107 h => ?_)
              refine zg_aload_n (x := y5) hX dWP_call_110 rfl ?_
              refine zg_dup hX dWP_call_111 (zv_cat _) ?_
              refine zg_getI (ci := 2) (k := 9) hc_2 (by decide) (by decide) hin_2 zx_203 ft_2_9 hX dWP_call_112 h (fun a112 h => ?_)
              refine zg_iconst hX dWP_call_115 (1 : Int32) (by decide) ?_
              refine zg_iadd hX dWP_call_116 ?_
              refine zg_putI (ci := 2) (k := 9) hc_2 (by decide) (by decide) hin_2 zx_203 ft_2_9 tyId okId nmId rfl (vp_nar_int _) rfl hX dWP_call_117 h (fun w117 h => ?_)
              refine zg_aload_n (x := (some a0)) hX dWP_call_120 rfl ?_
              refine zg_iconst hX dWP_call_121 (0 : Int32) (by decide) ?_
              refine zg_putI (ci := 8) (k := 8) hc_8 (by decide) (by decide) hin_8 zx_99 ft_8_8 tyWP okWP nmWP rfl (vp_nar_int _) rfl hX dWP_call_122 h (fun w122 h => ?_)
              refine zg_iload hX dWP_call_125 rfl ?_
              cases h
              exact zg_iret hX hr (by decide) dWP_call_127
            · refine zg_iconst hX dWP_call_48 (-1 : Int32) (by decide) ?_
              cases h
              exact zg_iret hX hr (by decide) dWP_call_49
def zf_WP_code (F : Nat) (w : zw_T) (a0 : Nat) (x1 : Int32) : Option (Int32 × zw_T) :=
  if x1 < 0 then (
  some ((0 : Int32), w))
  else (
  if (2097152 : Int32) ≤ x1 then (
  some ((0 : Int32), w))
  else (
  zf_bd (zf_WP_codewordOf F w x1) fun v11 w11 =>
  some (v11, w11)))
set_option maxHeartbeats 4000000 in
set_option maxRecDepth 100000 in
theorem zm_WP_code (l : Launch) (D : va_G) (G : zw_G) (A : Nat → Prop) (F : Nat) (w : zw_T) (a0 : Nat) (x1 : Int32) (r : Int32 × zw_T) (h : zf_WP_code F w a0 x1 = some r) : zc l yWP_code wsWP_code 2 44 128 0 D G A [.ref a0, .int x1] w (zr_i r) := by
  refine zc_of (ret := some .int) [some (va_rf (some a0)), some (.int x1)] (plainFor_of_name (by decide +kernel)) rfl (Nat.le_of_ble_eq_true rfl) rfl rfl (fun X hX hr hm => ?_)
  unfold zf_WP_code at h
  refine zg_iload_n hX dWP_code_0 rfl ?_
  refine zg_if_lt (tgt := 17) hX dWP_code_1 rfl h (fun h => ?_) (fun h => ?_)
  · refine zg_iconst hX dWP_code_17 (0 : Int32) (by decide) ?_
    cases h
    exact zg_iret hX hr (by decide) dWP_code_18
  · refine zg_iload_n hX dWP_code_4 rfl ?_
    refine zg_ldc hX dWP_code_5 (2097152 : Int32) zx_132 ?_
    refine zg_icmp_ge (tgt := 17) hX dWP_code_7 rfl h (fun h => ?_) (fun h => ?_)
    · refine zg_iconst hX dWP_code_17 (0 : Int32) (by decide) ?_
      cases h
      exact zg_iret hX hr (by decide) dWP_code_18
    · refine zg_iload_n hX dWP_code_10 rfl ?_
      obtain ⟨v11, w11, q11, h⟩ := zf_bd_e h
      refine zg_callS_i (mcy := 0) (v := v11) (w1 := w11) (st := []) [.int x1] (fun l => zm_WP_codewordOf l D G A F w x1 (v11, w11) q11) (zt_S zx_133 zx_134 zx_1 zx_135) rfl hd_WP_codewordOf (by decide) (by decide) (by decide) (Nat.le_of_ble_eq_true rfl) rfl rfl hX dWP_code_11 ?_
      refine zg_goto (tgt := 18) hX dWP_code_14 rfl ?_
      cases h
      exact zg_iret hX hr (by decide) dWP_code_18
def zf_WP_pagerAt (F : Nat) (w : zw_T) (a0 : Nat) (x1 : Int32) : Option (Option Nat × zw_T) :=
  if x1 < 0 then (
  some (none, w))
  else (
  zf_at w 9 (some a0) fun a6 =>
  if (zw_I w 1515 a6 0) ≤ x1 then (
  some (none, w))
  else (
  zf_at w 9 (some a0) fun a13 =>
  zf_ix w 406 (zw_R w 1514 a13 0) x1 fun a17 j17 =>
  some ((zw_R w 406 a17 j17), w)))
set_option maxHeartbeats 4000000 in
set_option maxRecDepth 100000 in
theorem zm_WP_pagerAt (l : Launch) (D : va_G) (G : zw_G) (A : Nat → Prop) (F : Nat) (w : zw_T) (a0 : Nat) (x1 : Int32) (r : Option Nat × zw_T) (h : zf_WP_pagerAt F w a0 x1 = some r) : zc l yWP_pagerAt wsWP_pagerAt 0 0 128 0 D G A [.ref a0, .int x1] w (zr_r r) := by
  refine zc_of (ret := some (.object "WakingPagers$Pager")) [some (va_rf (some a0)), some (.int x1)] (plainFor_of_name (by decide +kernel)) rfl (Nat.le_of_ble_eq_true rfl) rfl rfl (fun X hX hr hm => ?_)
  unfold zf_WP_pagerAt at h
  refine zg_iload_n hX dWP_pagerAt_0 rfl ?_
  refine zg_if_lt (tgt := 21) hX dWP_pagerAt_1 rfl h (fun h => ?_) (fun h => ?_)
  · refine zg_null hX dWP_pagerAt_21 ?_
    cases h
    exact zg_aret _ hX hr (Or.inl ⟨_, rfl⟩) (by decide) dWP_pagerAt_22
  · refine zg_iload_n hX dWP_pagerAt_4 rfl ?_
    refine zg_aload_n (x := (some a0)) hX dWP_pagerAt_5 rfl ?_
    refine zg_getI (ci := 8) (k := 3) hc_8 (by decide) (by decide) hin_8 zx_94 ft_8_3 hX dWP_pagerAt_6 h (fun a6 h => ?_)
    refine zg_icmp_ge (tgt := 21) hX dWP_pagerAt_9 rfl h (fun h => ?_) (fun h => ?_)
    · refine zg_null hX dWP_pagerAt_21 ?_
      cases h
      exact zg_aret _ hX hr (Or.inl ⟨_, rfl⟩) (by decide) dWP_pagerAt_22
    · refine zg_aload_n (x := (some a0)) hX dWP_pagerAt_12 rfl ?_
      refine zg_getR (ci := 8) (k := 2) hc_8 (by decide) (by decide) hin_8 zx_93 ft_8_2 hX dWP_pagerAt_13 h (fun a13 h => ?_)
      refine zg_iload_n hX dWP_pagerAt_16 rfl ?_
      refine zg_aald (ci := 6) (t0 := 6) rfl hX dWP_pagerAt_17 h (fun a17 j17 h => ?_)
      refine zg_goto (tgt := 22) hX dWP_pagerAt_18 rfl ?_
      cases h
      exact zg_aret _ hX hr (Or.inl ⟨_, rfl⟩) (by decide) dWP_pagerAt_22
def zf_WP_count (F : Nat) (w : zw_T) (a0 : Nat) (x1 : Int32) (x2 : Int32) : Option (Int32 × zw_T) :=
  zf_at w 9 (some a0) fun a2 =>
  zf_bd (zf_WP_pagerAt F w a2 x1) fun v2 w2 =>
  zf_let v2 fun y5 =>
  if y5 = none then (
  some ((-1 : Int32), w2))
  else (
  if x2 = 0 then (
  zf_at w2 7 y5 fun a45 =>
  some ((zw_I w2 1389 a45 0), w2))
  else (if x2 = 1 then (
  zf_at w2 7 y5 fun a50 =>
  some ((zw_I w2 1390 a50 0), w2))
  else (if x2 = 2 then (
  zf_at w2 7 y5 fun a55 =>
  some ((zw_I w2 1391 a55 0), w2))
  else (if x2 = 3 then (
  zf_at w2 7 y5 fun a60 =>
  some ((zw_I w2 1392 a60 0), w2))
  else (
  some ((-1 : Int32), w2))))))
set_option maxHeartbeats 4000000 in
set_option maxRecDepth 100000 in
theorem zm_WP_count (l : Launch) (D : va_G) (G : zw_G) (A : Nat → Prop) (F : Nat) (w : zw_T) (a0 : Nat) (x1 : Int32) (x2 : Int32) (r : Int32 × zw_T) (h : zf_WP_count F w a0 x1 x2 = some r) : zc l yWP_count wsWP_count 1 21 128 0 D G A [.ref a0, .int x1, .int x2] w (zr_i r) := by
  refine zc_of (ret := some .int) [some (va_rf (some a0)), some (.int x1), some (.int x2), none] (plainFor_of_name (by decide +kernel)) rfl (Nat.le_of_ble_eq_true rfl) rfl rfl (fun X hX hr hm => ?_)
  unfold zf_WP_count at h
  refine zg_aload_n (x := (some a0)) hX dWP_count_0 rfl ?_
  refine zg_iload_n hX dWP_count_1 rfl ?_
  obtain ⟨a2, e2, t2, h⟩ := zf_at_e h
  obtain ⟨v2, w2, q2, h⟩ := zf_bd_e h
  refine zg_callV_r (mcy := 0) (v := v2) (w1 := w2) (st := []) hc_8 (by decide) e2 t2 [.int x1] (fun l => zm_WP_pagerAt l D G A F w a2 x1 (v2, w2) q2) (zt_V zx_316 zx_318 zs_1 zx_1 zx_319) rfl hd_WP_pagerAt (by decide) (by decide) (by decide) (Nat.le_of_ble_eq_true rfl) rfl rfl hX dWP_count_2 ?_
  refine zg_astore_n hX dWP_count_5 (Nat.le_of_ble_eq_true rfl) rfl h (fun y5 h => ?_)
  refine zg_aload_n (x := y5) hX dWP_count_6 rfl ?_
  refine zg_ifnonnull (tgt := 12) hX dWP_count_7 rfl h (fun h => ?_) (fun h => ?_)
  · refine zg_iconst hX dWP_count_10 (-1 : Int32) (by decide) ?_
    cases h
    exact zg_iret hX hr (by decide) dWP_count_11
  · refine zg_iload_n hX dWP_count_12 rfl ?_
    refine zg_tsw4 (g0 := 44) (g1 := 49) (g2 := 54) (g3 := 59) (gd := 64) hX dWP_count_13 rfl rfl rfl rfl rfl h (fun h => ?_) (fun h => ?_) (fun h => ?_) (fun h => ?_) (fun h => ?_)
    · refine zg_aload_n (x := y5) hX dWP_count_44 rfl ?_
      refine zg_getI (ci := 6) (k := 5) hc_6 (by decide) (by decide) hin_6 zx_283 ft_6_5 hX dWP_count_45 h (fun a45 h => ?_)
      cases h
      exact zg_iret hX hr (by decide) dWP_count_48
    · refine zg_aload_n (x := y5) hX dWP_count_49 rfl ?_
      refine zg_getI (ci := 6) (k := 6) hc_6 (by decide) (by decide) hin_6 zx_286 ft_6_6 hX dWP_count_50 h (fun a50 h => ?_)
      cases h
      exact zg_iret hX hr (by decide) dWP_count_53
    · refine zg_aload_n (x := y5) hX dWP_count_54 rfl ?_
      refine zg_getI (ci := 6) (k := 7) hc_6 (by decide) (by decide) hin_6 zx_289 ft_6_7 hX dWP_count_55 h (fun a55 h => ?_)
      cases h
      exact zg_iret hX hr (by decide) dWP_count_58
    · refine zg_aload_n (x := y5) hX dWP_count_59 rfl ?_
      refine zg_getI (ci := 6) (k := 8) hc_6 (by decide) (by decide) hin_6 zx_292 ft_6_8 hX dWP_count_60 h (fun a60 h => ?_)
      cases h
      exact zg_iret hX hr (by decide) dWP_count_63
    · refine zg_iconst hX dWP_count_64 (-1 : Int32) (by decide) ?_
      cases h
      exact zg_iret hX hr (by decide) dWP_count_65
