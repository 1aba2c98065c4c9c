theorem zk_eq {y c : Int32} (h : (if y = c then some () else none) = some ()) : y = c := by
  by_cases hq : y = c
  · exact hq
  · rw [if_neg hq] at h
    cases h
def zf_Pg_init (F : Nat) (w : zw_T) (a0 : Nat) : Option (zw_T) :=
  zf_na 128 w 401 (4 : Int32) fun w6i0 =>
  zf_at w6i0 7 (some a0) fun a9i0 => zf_let (zw_sR w6i0 1384 a9i0 0 (some (zw_n w))) fun w9i0 =>
  zf_at w9i0 7 (some a0) fun a14i0 => zf_let (zw_sI w9i0 1385 a14i0 0 (0 : Int32)) fun w14i0 =>
  zf_na 128 w14i0 407 (10 : Int32) fun w20i0 =>
  zf_at w20i0 7 (some a0) fun a23i0 => zf_let (zw_sR w20i0 1386 a23i0 0 (some (zw_n w14i0))) fun w23i0 =>
  zf_at w23i0 7 (some a0) fun a28i0 => zf_let (zw_sI w23i0 1387 a28i0 0 (0 : Int32)) fun w28i0 =>
  zf_at w28i0 7 (some a0) fun a33i0 => zf_let (zw_sI w28i0 1388 a33i0 0 (0 : Int32)) fun w33i0 =>
  zf_at w33i0 7 (some a0) fun a38i0 => zf_let (zw_sI w33i0 1389 a38i0 0 (0 : Int32)) fun w38i0 =>
  zf_at w38i0 7 (some a0) fun a43i0 => zf_let (zw_sI w38i0 1390 a43i0 0 (0 : Int32)) fun w43i0 =>
  zf_at w43i0 7 (some a0) fun a48i0 => zf_let (zw_sI w43i0 1391 a48i0 0 (0 : Int32)) fun w48i0 =>
  zf_at w48i0 7 (some a0) fun a53i0 => zf_let (zw_sI w48i0 1392 a53i0 0 (0 : Int32)) fun w53i0 =>
  zf_at w53i0 7 (some a0) fun a65i1 =>
  zf_let (zw_new w53i0 8 0) fun w69i1 =>
  zf_bv (zf_Sd_init F w69i1 (zw_n w53i0)) fun w73i1 =>
  zf_at w73i1 8 (some (zw_n w53i0)) fun b76i1 => zf_ix w73i1 407 (zw_R w53i0 1386 a65i1 0) (0 : Int32) fun a76i1 j76i1 => zf_let (zw_sR w73i1 407 a76i1 j76i1 (some b76i1)) fun w76i1 =>
  zf_at w76i1 7 (some a0) fun a65i2 =>
  zf_let (zw_new w76i1 8 0) fun w69i2 =>
  zf_bv (zf_Sd_init F w69i2 (zw_n w76i1)) fun w73i2 =>
  zf_at w73i2 8 (some (zw_n w76i1)) fun b76i2 => zf_ix w73i2 407 (zw_R w76i1 1386 a65i2 0) (1 : Int32) fun a76i2 j76i2 => zf_let (zw_sR w73i2 407 a76i2 j76i2 (some b76i2)) fun w76i2 =>
  zf_at w76i2 7 (some a0) fun a65i3 =>
  zf_let (zw_new w76i2 8 0) fun w69i3 =>
  zf_bv (zf_Sd_init F w69i3 (zw_n w76i2)) fun w73i3 =>
  zf_at w73i3 8 (some (zw_n w76i2)) fun b76i3 => zf_ix w73i3 407 (zw_R w76i2 1386 a65i3 0) (2 : Int32) fun a76i3 j76i3 => zf_let (zw_sR w73i3 407 a76i3 j76i3 (some b76i3)) fun w76i3 =>
  zf_at w76i3 7 (some a0) fun a65i4 =>
  zf_let (zw_new w76i3 8 0) fun w69i4 =>
  zf_bv (zf_Sd_init F w69i4 (zw_n w76i3)) fun w73i4 =>
  zf_at w73i4 8 (some (zw_n w76i3)) fun b76i4 => zf_ix w73i4 407 (zw_R w76i3 1386 a65i4 0) (3 : Int32) fun a76i4 j76i4 => zf_let (zw_sR w73i4 407 a76i4 j76i4 (some b76i4)) fun w76i4 =>
  zf_at w76i4 7 (some a0) fun a65i5 =>
  zf_let (zw_new w76i4 8 0) fun w69i5 =>
  zf_bv (zf_Sd_init F w69i5 (zw_n w76i4)) fun w73i5 =>
  zf_at w73i5 8 (some (zw_n w76i4)) fun b76i5 => zf_ix w73i5 407 (zw_R w76i4 1386 a65i5 0) (4 : Int32) fun a76i5 j76i5 => zf_let (zw_sR w73i5 407 a76i5 j76i5 (some b76i5)) fun w76i5 =>
  zf_at w76i5 7 (some a0) fun a65i6 =>
  zf_let (zw_new w76i5 8 0) fun w69i6 =>
  zf_bv (zf_Sd_init F w69i6 (zw_n w76i5)) fun w73i6 =>
  zf_at w73i6 8 (some (zw_n w76i5)) fun b76i6 => zf_ix w73i6 407 (zw_R w76i5 1386 a65i6 0) (5 : Int32) fun a76i6 j76i6 => zf_let (zw_sR w73i6 407 a76i6 j76i6 (some b76i6)) fun w76i6 =>
  zf_at w76i6 7 (some a0) fun a65i7 =>
  zf_let (zw_new w76i6 8 0) fun w69i7 =>
  zf_bv (zf_Sd_init F w69i7 (zw_n w76i6)) fun w73i7 =>
  zf_at w73i7 8 (some (zw_n w76i6)) fun b76i7 => zf_ix w73i7 407 (zw_R w76i6 1386 a65i7 0) (6 : Int32) fun a76i7 j76i7 => zf_let (zw_sR w73i7 407 a76i7 j76i7 (some b76i7)) fun w76i7 =>
  zf_at w76i7 7 (some a0) fun a65i8 =>
  zf_let (zw_new w76i7 8 0) fun w69i8 =>
  zf_bv (zf_Sd_init F w69i8 (zw_n w76i7)) fun w73i8 =>
  zf_at w73i8 8 (some (zw_n w76i7)) fun b76i8 => zf_ix w73i8 407 (zw_R w76i7 1386 a65i8 0) (7 : Int32) fun a76i8 j76i8 => zf_let (zw_sR w73i8 407 a76i8 j76i8 (some b76i8)) fun w76i8 =>
  zf_at w76i8 7 (some a0) fun a65i9 =>
  zf_let (zw_new w76i8 8 0) fun w69i9 =>
  zf_bv (zf_Sd_init F w69i9 (zw_n w76i8)) fun w73i9 =>
  zf_at w73i9 8 (some (zw_n w76i8)) fun b76i9 => zf_ix w73i9 407 (zw_R w76i8 1386 a65i9 0) (8 : Int32) fun a76i9 j76i9 => zf_let (zw_sR w73i9 407 a76i9 j76i9 (some b76i9)) fun w76i9 =>
  zf_at w76i9 7 (some a0) fun a65i10 =>
  zf_let (zw_new w76i9 8 0) fun w69i10 =>
  zf_bv (zf_Sd_init F w69i10 (zw_n w76i9)) fun w73i10 =>
  zf_at w73i10 8 (some (zw_n w76i9)) fun b76i10 => zf_ix w73i10 407 (zw_R w76i9 1386 a65i10 0) (9 : Int32) fun a76i10 j76i10 => zf_let (zw_sR w73i10 407 a76i10 j76i10 (some b76i10)) fun w76i10 =>
  some w76i10
set_option maxHeartbeats 4000000 in
set_option maxRecDepth 100000 in
theorem zm_Pg_init (l : Launch) (D : va_G) (G : zw_G) (A : Nat → Prop) (F : Nat) (w : zw_T) (a0 : Nat) (r : zw_T) (h : zf_Pg_init F w a0 = some r) : zc l yPg_init wsPg_init 2 40 128 22 D G A [.ref a0] w (zr_v r) := by
  refine zc_of (ret := none) [some (va_rf (some a0)), none] (plainFor_of_name (by decide +kernel)) rfl (Nat.le_of_ble_eq_true rfl) rfl rfl (fun X hX hr hm => ?_)
  unfold zf_Pg_init at h
  refine zg_aload_n (x := (some a0)) hX dPg_init_0 rfl ?_
  refine zg_oinit zx_238 zx_22 zx_23 (by decide) (by decide) rfl hX dPg_init_1 ?_
  refine zg_aload_n (x := (some a0)) hX dPg_init_4 rfl ?_
  refine zg_iconst hX dPg_init_5 (4 : Int32) (by decide) ?_
  refine zg_newr (ci := 1) (bd := 128) (by decide) (by decide) (t0 := 3) rfl zx_239 za_1 (by decide) hX dPg_init_6 h (fun w6i0 h => ?_)
  refine zg_pfiR (ci := 6) (k := 0) hc_6 (by decide) (by decide) hin_6 zx_274 ft_6_0 tyPg okPg nmPg rfl hm rfl (zv_na _ _).1 (zv_na _ _).2 hX dPg_init_9 h (fun w9i0 h => ?_)
  refine zg_aload_n (x := (some a0)) hX dPg_init_12 rfl ?_
  refine zg_iconst hX dPg_init_13 (0 : Int32) (by decide) ?_
  refine zg_putI (ci := 6) (k := 1) hc_6 (by decide) (by decide) hin_6 zx_275 ft_6_1 tyPg okPg nmPg rfl (vp_nar_int _) rfl hX dPg_init_14 h (fun w14i0 h => ?_)
  refine zg_aload_n (x := (some a0)) hX dPg_init_17 rfl ?_
  refine zg_bipush hX dPg_init_18 (10 : Int32) (by decide) ?_
  refine zg_newr (ci := 7) (bd := 128) (by decide) (by decide) (t0 := 7) rfl zx_241 za_7 (by decide) hX dPg_init_20 h (fun w20i0 h => ?_)
  refine zg_pfiR (ci := 6) (k := 2) hc_6 (by decide) (by decide) hin_6 zx_277 ft_6_2 tyPg okPg nmPg rfl hm rfl (zv_na _ _).1 (zv_na _ _).2 hX dPg_init_23 h (fun w23i0 h => ?_)
  refine zg_aload_n (x := (some a0)) hX dPg_init_26 rfl ?_
  refine zg_iconst hX dPg_init_27 (0 : Int32) (by decide) ?_
  refine zg_putI (ci := 6) (k := 3) hc_6 (by decide) (by decide) hin_6 zx_278 ft_6_3 tyPg okPg nmPg rfl (vp_nar_int _) rfl hX dPg_init_28 h (fun w28i0 h => ?_)
  refine zg_aload_n (x := (some a0)) hX dPg_init_31 rfl ?_
  refine zg_iconst hX dPg_init_32 (0 : Int32) (by decide) ?_
  refine zg_putI (ci := 6) (k := 4) hc_6 (by decide) (by decide) hin_6 zx_279 ft_6_4 tyPg okPg nmPg rfl (vp_nar_int _) rfl hX dPg_init_33 h (fun w33i0 h => ?_)
  refine zg_aload_n (x := (some a0)) hX dPg_init_36 rfl ?_
  refine zg_iconst hX dPg_init_37 (0 : Int32) (by decide) ?_
  refine zg_putI (ci := 6) (k := 5) hc_6 (by decide) (by decide) hin_6 zx_281 ft_6_5 tyPg okPg nmPg rfl (vp_nar_int _) rfl hX dPg_init_38 h (fun w38i0 h => ?_)
  refine zg_aload_n (x := (some a0)) hX dPg_init_41 rfl ?_
  refine zg_iconst hX dPg_init_42 (0 : Int32) (by decide) ?_
  refine zg_putI (ci := 6) (k := 6) hc_6 (by decide) (by decide) hin_6 zx_284 ft_6_6 tyPg okPg nmPg rfl (vp_nar_int _) rfl hX dPg_init_43 h (fun w43i0 h => ?_)
  refine zg_aload_n (x := (some a0)) hX dPg_init_46 rfl ?_
  refine zg_iconst hX dPg_init_47 (0 : Int32) (by decide) ?_
  refine zg_putI (ci := 6) (k := 7) hc_6 (by decide) (by decide) hin_6 zx_287 ft_6_7 tyPg okPg nmPg rfl (vp_nar_int _) rfl hX dPg_init_48 h (fun w48i0 h => ?_)
  refine zg_aload_n (x := (some a0)) hX dPg_init_51 rfl ?_
  refine zg_iconst hX dPg_init_52 (0 : Int32) (by decide) ?_
  refine zg_putI (ci := 6) (k := 8) hc_6 (by decide) (by decide) hin_6 zx_290 ft_6_8 tyPg okPg nmPg rfl (vp_nar_int _) rfl hX dPg_init_53 h (fun w53i0 h => ?_)
  refine zg_iconst hX dPg_init_56 (0 : Int32) (by decide) ?_
  refine zg_istore_n (K := fun y => if y = (0 : Int32) then some () else none) (r := ()) hX dPg_init_57 (Nat.le_of_ble_eq_true rfl) rfl (by decide) (fun y57i0 q57i0 => ?_)
  obtain rfl := zk_eq q57i0
  refine zg_iload_n hX dPg_init_58 rfl ?_
  refine zg_bipush hX dPg_init_59 (10 : Int32) (by decide) ?_
  refine zg_icmp_ge (ra := none) (tgt := 83) hX dPg_init_61 rfl ((if_neg (by decide)).trans h) (fun q => by cases q) (fun h => ?_)
  refine zg_aload_n (x := (some a0)) hX dPg_init_64 rfl ?_
  refine zg_getR (ci := 6) (k := 2) hc_6 (by decide) (by decide) hin_6 zx_277 ft_6_2 hX dPg_init_65 h (fun a65i1 h => ?_)
  refine zg_iload_n hX dPg_init_68 rfl ?_
  refine zg_new (ci := 7) hc_7 (by decide) hin_7 tySd okSd df_7 zx_241 zx_243 zx_10 (by decide) (by decide) hX dPg_init_69 h (fun w69i1 h => ?_)
  refine zg_dup hX dPg_init_72 rfl ?_
  obtain ⟨w73i1, q73i1, h⟩ := zf_bv_e h
  refine zg_callIN_v (mcy := 1) (w1 := w73i1) (st := [va_rf (some (zw_n w53i0)), .int (0 : Int32), va_rf (zw_R w53i0 1386 a65i1 0)]) [] (fun l => zm_Sd_init l D G A F w69i1 (zw_n w53i0) w73i1 q73i1) rfl rfl (zt_G zx_246) zn_4 zx_10 zx_245 rfl hd_Sd_init (by decide) (by decide) (by decide) (Nat.le_trans (zv_s (zv_cat _) (zv_s rfl (zv_s (zv_cat _) zv_s0))) (by decide)) rfl rfl hX dPg_init_73 ?_
  refine zg_aast (ci := 7) (kd := 407) hc_7 (by decide) rfl (t0 := 7) rfl rfl hX dPg_init_76 h (fun w76i1 h => ?_)
  refine zg_iinc (K := fun y => if y = (1 : Int32) then some () else none) (r := ()) hX dPg_init_77 (1 : Int32) rfl (by decide) (Nat.le_of_ble_eq_true rfl) rfl (by decide) (fun y77i1 q77i1 => ?_)
  obtain rfl := zk_eq q77i1
  refine zg_goto (tgt := 58) hX dPg_init_80 rfl ?_
  refine zg_iload_n hX dPg_init_58 rfl ?_
  refine zg_bipush hX dPg_init_59 (10 : Int32) (by decide) ?_
  refine zg_icmp_ge (ra := none) (tgt := 83) hX dPg_init_61 rfl ((if_neg (by decide)).trans h) (fun q => by cases q) (fun h => ?_)
  refine zg_aload_n (x := (some a0)) hX dPg_init_64 rfl ?_
  refine zg_getR (ci := 6) (k := 2) hc_6 (by decide) (by decide) hin_6 zx_277 ft_6_2 hX dPg_init_65 h (fun a65i2 h => ?_)
  refine zg_iload_n hX dPg_init_68 rfl ?_
  refine zg_new (ci := 7) hc_7 (by decide) hin_7 tySd okSd df_7 zx_241 zx_243 zx_10 (by decide) (by decide) hX dPg_init_69 h (fun w69i2 h => ?_)
  refine zg_dup hX dPg_init_72 rfl ?_
  obtain ⟨w73i2, q73i2, h⟩ := zf_bv_e h
  refine zg_callIN_v (mcy := 1) (w1 := w73i2) (st := [va_rf (some (zw_n w76i1)), .int (1 : Int32), va_rf (zw_R w76i1 1386 a65i2 0)]) [] (fun l => zm_Sd_init l D G A F w69i2 (zw_n w76i1) w73i2 q73i2) rfl rfl (zt_G zx_246) zn_4 zx_10 zx_245 rfl hd_Sd_init (by decide) (by decide) (by decide) (Nat.le_trans (zv_s (zv_cat _) (zv_s rfl (zv_s (zv_cat _) zv_s0))) (by decide)) rfl rfl hX dPg_init_73 ?_
  refine zg_aast (ci := 7) (kd := 407) hc_7 (by decide) rfl (t0 := 7) rfl rfl hX dPg_init_76 h (fun w76i2 h => ?_)
  refine zg_iinc (K := fun y => if y = (2 : Int32) then some () else none) (r := ()) hX dPg_init_77 (1 : Int32) rfl (by decide) (Nat.le_of_ble_eq_true rfl) rfl (by decide) (fun y77i2 q77i2 => ?_)
  obtain rfl := zk_eq q77i2
  refine zg_goto (tgt := 58) hX dPg_init_80 rfl ?_
  refine zg_iload_n hX dPg_init_58 rfl ?_
  refine zg_bipush hX dPg_init_59 (10 : Int32) (by decide) ?_
  refine zg_icmp_ge (ra := none) (tgt := 83) hX dPg_init_61 rfl ((if_neg (by decide)).trans h) (fun q => by cases q) (fun h => ?_)
  refine zg_aload_n (x := (some a0)) hX dPg_init_64 rfl ?_
  refine zg_getR (ci := 6) (k := 2) hc_6 (by decide) (by decide) hin_6 zx_277 ft_6_2 hX dPg_init_65 h (fun a65i3 h => ?_)
  refine zg_iload_n hX dPg_init_68 rfl ?_
  refine zg_new (ci := 7) hc_7 (by decide) hin_7 tySd okSd df_7 zx_241 zx_243 zx_10 (by decide) (by decide) hX dPg_init_69 h (fun w69i3 h => ?_)
  refine zg_dup hX dPg_init_72 rfl ?_
  obtain ⟨w73i3, q73i3, h⟩ := zf_bv_e h
  refine zg_callIN_v (mcy := 1) (w1 := w73i3) (st := [va_rf (some (zw_n w76i2)), .int (2 : Int32), va_rf (zw_R w76i2 1386 a65i3 0)]) [] (fun l => zm_Sd_init l D G A F w69i3 (zw_n w76i2) w73i3 q73i3) rfl rfl (zt_G zx_246) zn_4 zx_10 zx_245 rfl hd_Sd_init (by decide) (by decide) (by decide) (Nat.le_trans (zv_s (zv_cat _) (zv_s rfl (zv_s (zv_cat _) zv_s0))) (by decide)) rfl rfl hX dPg_init_73 ?_
  refine zg_aast (ci := 7) (kd := 407) hc_7 (by decide) rfl (t0 := 7) rfl rfl hX dPg_init_76 h (fun w76i3 h => ?_)
  refine zg_iinc (K := fun y => if y = (3 : Int32) then some () else none) (r := ()) hX dPg_init_77 (1 : Int32) rfl (by decide) (Nat.le_of_ble_eq_true rfl) rfl (by decide) (fun y77i3 q77i3 => ?_)
  obtain rfl := zk_eq q77i3
  refine zg_goto (tgt := 58) hX dPg_init_80 rfl ?_
  refine zg_iload_n hX dPg_init_58 rfl ?_
  refine zg_bipush hX dPg_init_59 (10 : Int32) (by decide) ?_
  refine zg_icmp_ge (ra := none) (tgt := 83) hX dPg_init_61 rfl ((if_neg (by decide)).trans h) (fun q => by cases q) (fun h => ?_)
  refine zg_aload_n (x := (some a0)) hX dPg_init_64 rfl ?_
  refine zg_getR (ci := 6) (k := 2) hc_6 (by decide) (by decide) hin_6 zx_277 ft_6_2 hX dPg_init_65 h (fun a65i4 h => ?_)
  refine zg_iload_n hX dPg_init_68 rfl ?_
  refine zg_new (ci := 7) hc_7 (by decide) hin_7 tySd okSd df_7 zx_241 zx_243 zx_10 (by decide) (by decide) hX dPg_init_69 h (fun w69i4 h => ?_)
  refine zg_dup hX dPg_init_72 rfl ?_
  obtain ⟨w73i4, q73i4, h⟩ := zf_bv_e h
  refine zg_callIN_v (mcy := 1) (w1 := w73i4) (st := [va_rf (some (zw_n w76i3)), .int (3 : Int32), va_rf (zw_R w76i3 1386 a65i4 0)]) [] (fun l => zm_Sd_init l D G A F w69i4 (zw_n w76i3) w73i4 q73i4) rfl rfl (zt_G zx_246) zn_4 zx_10 zx_245 rfl hd_Sd_init (by decide) (by decide) (by decide) (Nat.le_trans (zv_s (zv_cat _) (zv_s rfl (zv_s (zv_cat _) zv_s0))) (by decide)) rfl rfl hX dPg_init_73 ?_
  refine zg_aast (ci := 7) (kd := 407) hc_7 (by decide) rfl (t0 := 7) rfl rfl hX dPg_init_76 h (fun w76i4 h => ?_)
  refine zg_iinc (K := fun y => if y = (4 : Int32) then some () else none) (r := ()) hX dPg_init_77 (1 : Int32) rfl (by decide) (Nat.le_of_ble_eq_true rfl) rfl (by decide) (fun y77i4 q77i4 => ?_)
  obtain rfl := zk_eq q77i4
  refine zg_goto (tgt := 58) hX dPg_init_80 rfl ?_
  refine zg_iload_n hX dPg_init_58 rfl ?_
  refine zg_bipush hX dPg_init_59 (10 : Int32) (by decide) ?_
  refine zg_icmp_ge (ra := none) (tgt := 83) hX dPg_init_61 rfl ((if_neg (by decide)).trans h) (fun q => by cases q) (fun h => ?_)
  refine zg_aload_n (x := (some a0)) hX dPg_init_64 rfl ?_
  refine zg_getR (ci := 6) (k := 2) hc_6 (by decide) (by decide) hin_6 zx_277 ft_6_2 hX dPg_init_65 h (fun a65i5 h => ?_)
  refine zg_iload_n hX dPg_init_68 rfl ?_
  refine zg_new (ci := 7) hc_7 (by decide) hin_7 tySd okSd df_7 zx_241 zx_243 zx_10 (by decide) (by decide) hX dPg_init_69 h (fun w69i5 h => ?_)
  refine zg_dup hX dPg_init_72 rfl ?_
  obtain ⟨w73i5, q73i5, h⟩ := zf_bv_e h
  refine zg_callIN_v (mcy := 1) (w1 := w73i5) (st := [va_rf (some (zw_n w76i4)), .int (4 : Int32), va_rf (zw_R w76i4 1386 a65i5 0)]) [] (fun l => zm_Sd_init l D G A F w69i5 (zw_n w76i4) w73i5 q73i5) rfl rfl (zt_G zx_246) zn_4 zx_10 zx_245 rfl hd_Sd_init (by decide) (by decide) (by decide) (Nat.le_trans (zv_s (zv_cat _) (zv_s rfl (zv_s (zv_cat _) zv_s0))) (by decide)) rfl rfl hX dPg_init_73 ?_
  refine zg_aast (ci := 7) (kd := 407) hc_7 (by decide) rfl (t0 := 7) rfl rfl hX dPg_init_76 h (fun w76i5 h => ?_)
  refine zg_iinc (K := fun y => if y = (5 : Int32) then some () else none) (r := ()) hX dPg_init_77 (1 : Int32) rfl (by decide) (Nat.le_of_ble_eq_true rfl) rfl (by decide) (fun y77i5 q77i5 => ?_)
  obtain rfl := zk_eq q77i5
  refine zg_goto (tgt := 58) hX dPg_init_80 rfl ?_
  refine zg_iload_n hX dPg_init_58 rfl ?_
  refine zg_bipush hX dPg_init_59 (10 : Int32) (by decide) ?_
  refine zg_icmp_ge (ra := none) (tgt := 83) hX dPg_init_61 rfl ((if_neg (by decide)).trans h) (fun q => by cases q) (fun h => ?_)
  refine zg_aload_n (x := (some a0)) hX dPg_init_64 rfl ?_
  refine zg_getR (ci := 6) (k := 2) hc_6 (by decide) (by decide) hin_6 zx_277 ft_6_2 hX dPg_init_65 h (fun a65i6 h => ?_)
  refine zg_iload_n hX dPg_init_68 rfl ?_
  refine zg_new (ci := 7) hc_7 (by decide) hin_7 tySd okSd df_7 zx_241 zx_243 zx_10 (by decide) (by decide) hX dPg_init_69 h (fun w69i6 h => ?_)
  refine zg_dup hX dPg_init_72 rfl ?_
  obtain ⟨w73i6, q73i6, h⟩ := zf_bv_e h
  refine zg_callIN_v (mcy := 1) (w1 := w73i6) (st := [va_rf (some (zw_n w76i5)), .int (5 : Int32), va_rf (zw_R w76i5 1386 a65i6 0)]) [] (fun l => zm_Sd_init l D G A F w69i6 (zw_n w76i5) w73i6 q73i6) rfl rfl (zt_G zx_246) zn_4 zx_10 zx_245 rfl hd_Sd_init (by decide) (by decide) (by decide) (Nat.le_trans (zv_s (zv_cat _) (zv_s rfl (zv_s (zv_cat _) zv_s0))) (by decide)) rfl rfl hX dPg_init_73 ?_
  refine zg_aast (ci := 7) (kd := 407) hc_7 (by decide) rfl (t0 := 7) rfl rfl hX dPg_init_76 h (fun w76i6 h => ?_)
  refine zg_iinc (K := fun y => if y = (6 : Int32) then some () else none) (r := ()) hX dPg_init_77 (1 : Int32) rfl (by decide) (Nat.le_of_ble_eq_true rfl) rfl (by decide) (fun y77i6 q77i6 => ?_)
  obtain rfl := zk_eq q77i6
  refine zg_goto (tgt := 58) hX dPg_init_80 rfl ?_
  refine zg_iload_n hX dPg_init_58 rfl ?_
  refine zg_bipush hX dPg_init_59 (10 : Int32) (by decide) ?_
  refine zg_icmp_ge (ra := none) (tgt := 83) hX dPg_init_61 rfl ((if_neg (by decide)).trans h) (fun q => by cases q) (fun h => ?_)
  refine zg_aload_n (x := (some a0)) hX dPg_init_64 rfl ?_
  refine zg_getR (ci := 6) (k := 2) hc_6 (by decide) (by decide) hin_6 zx_277 ft_6_2 hX dPg_init_65 h (fun a65i7 h => ?_)
  refine zg_iload_n hX dPg_init_68 rfl ?_
  refine zg_new (ci := 7) hc_7 (by decide) hin_7 tySd okSd df_7 zx_241 zx_243 zx_10 (by decide) (by decide) hX dPg_init_69 h (fun w69i7 h => ?_)
  refine zg_dup hX dPg_init_72 rfl ?_
  obtain ⟨w73i7, q73i7, h⟩ := zf_bv_e h
  refine zg_callIN_v (mcy := 1) (w1 := w73i7) (st := [va_rf (some (zw_n w76i6)), .int (6 : Int32), va_rf (zw_R w76i6 1386 a65i7 0)]) [] (fun l => zm_Sd_init l D G A F w69i7 (zw_n w76i6) w73i7 q73i7) rfl rfl (zt_G zx_246) zn_4 zx_10 zx_245 rfl hd_Sd_init (by decide) (by decide) (by decide) (Nat.le_trans (zv_s (zv_cat _) (zv_s rfl (zv_s (zv_cat _) zv_s0))) (by decide)) rfl rfl hX dPg_init_73 ?_
  refine zg_aast (ci := 7) (kd := 407) hc_7 (by decide) rfl (t0 := 7) rfl rfl hX dPg_init_76 h (fun w76i7 h => ?_)
  refine zg_iinc (K := fun y => if y = (7 : Int32) then some () else none) (r := ()) hX dPg_init_77 (1 : Int32) rfl (by decide) (Nat.le_of_ble_eq_true rfl) rfl (by decide) (fun y77i7 q77i7 => ?_)
  obtain rfl := zk_eq q77i7
  refine zg_goto (tgt := 58) hX dPg_init_80 rfl ?_
  refine zg_iload_n hX dPg_init_58 rfl ?_
  refine zg_bipush hX dPg_init_59 (10 : Int32) (by decide) ?_
  refine zg_icmp_ge (ra := none) (tgt := 83) hX dPg_init_61 rfl ((if_neg (by decide)).trans h) (fun q => by cases q) (fun h => ?_)
  refine zg_aload_n (x := (some a0)) hX dPg_init_64 rfl ?_
  refine zg_getR (ci := 6) (k := 2) hc_6 (by decide) (by decide) hin_6 zx_277 ft_6_2 hX dPg_init_65 h (fun a65i8 h => ?_)
  refine zg_iload_n hX dPg_init_68 rfl ?_
  refine zg_new (ci := 7) hc_7 (by decide) hin_7 tySd okSd df_7 zx_241 zx_243 zx_10 (by decide) (by decide) hX dPg_init_69 h (fun w69i8 h => ?_)
  refine zg_dup hX dPg_init_72 rfl ?_
  obtain ⟨w73i8, q73i8, h⟩ := zf_bv_e h
  refine zg_callIN_v (mcy := 1) (w1 := w73i8) (st := [va_rf (some (zw_n w76i7)), .int (7 : Int32), va_rf (zw_R w76i7 1386 a65i8 0)]) [] (fun l => zm_Sd_init l D G A F w69i8 (zw_n w76i7) w73i8 q73i8) rfl rfl (zt_G zx_246) zn_4 zx_10 zx_245 rfl hd_Sd_init (by decide) (by decide) (by decide) (Nat.le_trans (zv_s (zv_cat _) (zv_s rfl (zv_s (zv_cat _) zv_s0))) (by decide)) rfl rfl hX dPg_init_73 ?_
  refine zg_aast (ci := 7) (kd := 407) hc_7 (by decide) rfl (t0 := 7) rfl rfl hX dPg_init_76 h (fun w76i8 h => ?_)
  refine zg_iinc (K := fun y => if y = (8 : Int32) then some () else none) (r := ()) hX dPg_init_77 (1 : Int32) rfl (by decide) (Nat.le_of_ble_eq_true rfl) rfl (by decide) (fun y77i8 q77i8 => ?_)
  obtain rfl := zk_eq q77i8
  refine zg_goto (tgt := 58) hX dPg_init_80 rfl ?_
  refine zg_iload_n hX dPg_init_58 rfl ?_
  refine zg_bipush hX dPg_init_59 (10 : Int32) (by decide) ?_
  refine zg_icmp_ge (ra := none) (tgt := 83) hX dPg_init_61 rfl ((if_neg (by decide)).trans h) (fun q => by cases q) (fun h => ?_)
  refine zg_aload_n (x := (some a0)) hX dPg_init_64 rfl ?_
  refine zg_getR (ci := 6) (k := 2) hc_6 (by decide) (by decide) hin_6 zx_277 ft_6_2 hX dPg_init_65 h (fun a65i9 h => ?_)
  refine zg_iload_n hX dPg_init_68 rfl ?_
  refine zg_new (ci := 7) hc_7 (by decide) hin_7 tySd okSd df_7 zx_241 zx_243 zx_10 (by decide) (by decide) hX dPg_init_69 h (fun w69i9 h => ?_)
  refine zg_dup hX dPg_init_72 rfl ?_
  obtain ⟨w73i9, q73i9, h⟩ := zf_bv_e h
  refine zg_callIN_v (mcy := 1) (w1 := w73i9) (st := [va_rf (some (zw_n w76i8)), .int (8 : Int32), va_rf (zw_R w76i8 1386 a65i9 0)]) [] (fun l => zm_Sd_init l D G A F w69i9 (zw_n w76i8) w73i9 q73i9) rfl rfl (zt_G zx_246) zn_4 zx_10 zx_245 rfl hd_Sd_init (by decide) (by decide) (by decide) (Nat.le_trans (zv_s (zv_cat _) (zv_s rfl (zv_s (zv_cat _) zv_s0))) (by decide)) rfl rfl hX dPg_init_73 ?_
  refine zg_aast (ci := 7) (kd := 407) hc_7 (by decide) rfl (t0 := 7) rfl rfl hX dPg_init_76 h (fun w76i9 h => ?_)
  refine zg_iinc (K := fun y => if y = (9 : Int32) then some () else none) (r := ()) hX dPg_init_77 (1 : Int32) rfl (by decide) (Nat.le_of_ble_eq_true rfl) rfl (by decide) (fun y77i9 q77i9 => ?_)
  obtain rfl := zk_eq q77i9
  refine zg_goto (tgt := 58) hX dPg_init_80 rfl ?_
  refine zg_iload_n hX dPg_init_58 rfl ?_
  refine zg_bipush hX dPg_init_59 (10 : Int32) (by decide) ?_
  refine zg_icmp_ge (ra := none) (tgt := 83) hX dPg_init_61 rfl ((if_neg (by decide)).trans h) (fun q => by cases q) (fun h => ?_)
  refine zg_aload_n (x := (some a0)) hX dPg_init_64 rfl ?_
  refine zg_getR (ci := 6) (k := 2) hc_6 (by decide) (by decide) hin_6 zx_277 ft_6_2 hX dPg_init_65 h (fun a65i10 h => ?_)
  refine zg_iload_n hX dPg_init_68 rfl ?_
  refine zg_new (ci := 7) hc_7 (by decide) hin_7 tySd okSd df_7 zx_241 zx_243 zx_10 (by decide) (by decide) hX dPg_init_69 h (fun w69i10 h => ?_)
  refine zg_dup hX dPg_init_72 rfl ?_
  obtain ⟨w73i10, q73i10, h⟩ := zf_bv_e h
  refine zg_callIN_v (mcy := 1) (w1 := w73i10) (st := [va_rf (some (zw_n w76i9)), .int (9 : Int32), va_rf (zw_R w76i9 1386 a65i10 0)]) [] (fun l => zm_Sd_init l D G A F w69i10 (zw_n w76i9) w73i10 q73i10) rfl rfl (zt_G zx_246) zn_4 zx_10 zx_245 rfl hd_Sd_init (by decide) (by decide) (by decide) (Nat.le_trans (zv_s (zv_cat _) (zv_s rfl (zv_s (zv_cat _) zv_s0))) (by decide)) rfl rfl hX dPg_init_73 ?_
  refine zg_aast (ci := 7) (kd := 407) hc_7 (by decide) rfl (t0 := 7) rfl rfl hX dPg_init_76 h (fun w76i10 h => ?_)
  refine zg_iinc (K := fun y => if y = (10 : Int32) then some () else none) (r := ()) hX dPg_init_77 (1 : Int32) rfl (by decide) (Nat.le_of_ble_eq_true rfl) rfl (by decide) (fun y77i10 q77i10 => ?_)
  obtain rfl := zk_eq q77i10
  refine zg_goto (tgt := 58) hX dPg_init_80 rfl ?_
  refine zg_iload_n hX dPg_init_58 rfl ?_
  refine zg_bipush hX dPg_init_59 (10 : Int32) (by decide) ?_
  refine zg_icmp_ge (rb := none) (tgt := 83) hX dPg_init_61 rfl ((if_pos (by decide)).trans h) (fun h => ?_) (fun q => by cases q)
  cases h
  exact zg_vret hX hr (by decide) dPg_init_83
def zf_WP_pager (F : Nat) (w : zw_T) (a0 : Nat) : Option (Int32 × zw_T) :=
  zf_at w 9 (some a0) fun a1 =>
  if (zw_I w 1515 a1 0) < (6 : Int32) then (
  zf_at w 9 (some a0) fun a12 =>
  zf_at w 9 (some a0) fun a16 =>
  zf_let (zw_new w 7 0) fun w19 =>
  zf_bv (zf_Pg_init F w19 (zw_n w)) fun w23 =>
  zf_at w23 7 (some (zw_n w)) fun b26 => zf_ix w23 406 (zw_R w 1514 a12 0) (zw_I w 1515 a16 0) fun a26 j26 => zf_let (zw_sR w23 406 a26 j26 (some b26)) fun w26 =>
  zf_at w26 9 (some a0) fun a29 =>
  zf_at w26 9 (some a0) fun a34 => zf_let (zw_sI w26 1515 a34 0 ((zw_I w26 1515 a29 0) + (1 : Int32))) fun w34 =>
  zf_at w34 9 (some a0) fun a38 =>
  some (((zw_I w34 1515 a38 0) - (1 : Int32)), w34))
  else (
  some ((-1 : Int32), w))
set_option maxHeartbeats 4000000 in
set_option maxRecDepth 100000 in
theorem zm_WP_pager (l : Launch) (D : va_G) (G : zw_G) (A : Nat → Prop) (F : Nat) (w : zw_T) (a0 : Nat) (r : Int32 × zw_T) (h : zf_WP_pager F w a0 = some r) : zc l yWP_pager wsWP_pager 3 61 128 23 D G A [.ref a0] w (zr_i r) := by
  refine zc_of (ret := some .int) [some (va_rf (some a0))] (plainFor_of_name (by decide +kernel)) rfl (Nat.le_of_ble_eq_true rfl) rfl rfl (fun X hX hr hm => ?_)
  unfold zf_WP_pager at h
  refine zg_aload_n (x := (some a0)) hX dWP_pager_0 rfl ?_
  refine zg_getI (ci := 8) (k := 3) hc_8 (by decide) (by decide) hin_8 zx_94 ft_8_3 hX dWP_pager_1 h (fun a1 h => ?_)
  refine zg_bipush hX dWP_pager_4 (6 : Int32) (by decide) ?_
  refine zg_icmp_lt (tgt := 11) hX dWP_pager_6 rfl h (fun h => ?_) (fun h => ?_)
  · refine zg_aload_n (x := (some a0)) hX dWP_pager_11 rfl ?_
    refine zg_getR (ci := 8) (k := 2) hc_8 (by decide) (by decide) hin_8 zx_93 ft_8_2 hX dWP_pager_12 h (fun a12 h => ?_)
    refine zg_aload_n (x := (some a0)) hX dWP_pager_15 rfl ?_
    refine zg_getI (ci := 8) (k := 3) hc_8 (by decide) (by decide) hin_8 zx_94 ft_8_3 hX dWP_pager_16 h (fun a16 h => ?_)
    refine zg_new (ci := 6) hc_6 (by decide) hin_6 tyPg okPg df_6 zx_26 zx_234 zx_9 (by decide) (by decide) hX dWP_pager_19 h (fun w19 h => ?_)
    refine zg_dup hX dWP_pager_22 rfl ?_
    obtain ⟨w23, q23, h⟩ := zf_bv_e h
    refine zg_callI_v (mcy := 22) (w1 := w23) (st := [va_rf (some (zw_n w)), .int (zw_I w 1515 a16 0), va_rf (zw_R w 1514 a12 0)]) [] (fun l => zm_Pg_init l D G A F w19 (zw_n w) w23 q23) rfl rfl (zt_G zx_237) zx_235 zx_9 zx_236 rfl hd_Pg_init (by decide) (by decide) (by decide) (Nat.le_trans (zv_s (zv_cat _) (zv_s rfl (zv_s (zv_cat _) zv_s0))) (by decide)) rfl rfl hX dWP_pager_23 ?_
    refine zg_aast (ci := 6) (kd := 406) hc_6 (by decide) rfl (t0 := 6) rfl rfl hX dWP_pager_26 h (fun w26 h => ?_)
    refine zg_aload_n (x := (some a0)) hX dWP_pager_27 rfl ?_
    refine zg_dup hX dWP_pager_28 rfl ?_
    refine zg_getI (ci := 8) (k := 3) hc_8 (by decide) (by decide) hin_8 zx_94 ft_8_3 hX dWP_pager_29 h (fun a29 h => ?_)
    refine zg_iconst hX dWP_pager_32 (1 : Int32) (by decide) ?_
    refine zg_iadd hX dWP_pager_33 ?_
    refine zg_putI (ci := 8) (k := 3) hc_8 (by decide) (by decide) hin_8 zx_94 ft_8_3 tyWP okWP nmWP rfl (vp_nar_int _) rfl hX dWP_pager_34 h (fun w34 h => ?_)
    refine zg_aload_n (x := (some a0)) hX dWP_pager_37 rfl ?_
    refine zg_getI (ci := 8) (k := 3) hc_8 (by decide) (by decide) hin_8 zx_94 ft_8_3 hX dWP_pager_38 h (fun a38 h => ?_)
    refine zg_iconst hX dWP_pager_41 (1 : Int32) (by decide) ?_
    refine zg_isub hX dWP_pager_42 ?_
    cases h
    exact zg_iret hX hr (by decide) dWP_pager_43
  · refine zg_iconst hX dWP_pager_9 (-1 : Int32) (by decide) ?_
    cases h
    exact zg_iret hX hr (by decide) dWP_pager_10
