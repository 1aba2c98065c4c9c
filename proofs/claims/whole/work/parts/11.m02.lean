def zf_Ls_addContent_j71 (F : Nat) (k3 : zw_T → Nat → Int32 → Int32 → Option (zw_T)) (w : zw_T) (a0 : Nat) (x1 : Int32) (x2 : Int32) : Option (zw_T) :=
  zf_let (x2 + (-1 : Int32)) fun y71 =>
  k3 w a0 x1 y71
def zf_Ls_addContent_L3 (F : Nat) : Nat → zw_T → Nat → Int32 → Int32 → Option (zw_T)
  | 0, _, _, _, _ => none
  | n + 1, w, a0, x1, x2 =>
  if x2 < 0 then (
  some w)
  else (
  zf_at w 5 (some a0) fun a9 =>
  zf_at w 5 (some a0) fun a18 =>
  zf_at w 5 (some a0) fun a23 => zf_let (zw_sI w 1262 a23 0 ((zw_I w 1262 a9 0) ||| (zi_shl ((zi_ushr x1 x2) &&& (1 : Int32)) (zw_I w 1263 a18 0)))) fun w23 =>
  zf_at w23 5 (some a0) fun a28 =>
  zf_at w23 5 (some a0) fun a33 => zf_let (zw_sI w23 1263 a33 0 ((zw_I w23 1263 a28 0) + (1 : Int32))) fun w33 =>
  zf_at w33 5 (some a0) fun a37 =>
  zf_at w33 5 (some a0) fun a41 =>
  zf_at w33 2 (zw_R w33 1259 a41 0) fun a44 =>
  zf_at w33 3 (zw_R w33 1064 a44 0) fun a47 =>
  if (zw_I w33 1263 a37 0) = (zw_I w33 1135 a47 0) then (
  zf_at w33 5 (some a0) fun a55 =>
  zf_at w33 5 (some a0) fun a58 =>
  zf_bv (zf_Ls_addSign F w33 a58 (zw_I w33 1262 a55 0)) fun w58 =>
  zf_at w58 5 (some a0) fun a63 => zf_let (zw_sI w58 1262 a63 0 (0 : Int32)) fun w63 =>
  zf_at w63 5 (some a0) fun a68 => zf_let (zw_sI w63 1263 a68 0 (0 : Int32)) fun w68 =>
  zf_Ls_addContent_j71 F (zf_Ls_addContent_L3 F n) w68 a0 x1 x2)
  else (
  zf_Ls_addContent_j71 F (zf_Ls_addContent_L3 F n) w33 a0 x1 x2))
def zf_Ls_addContent (F : Nat) (w : zw_T) (a0 : Nat) (x1 : Int32) : Option (zw_T) :=
  zf_let (19 : Int32) fun y2 =>
  zf_Ls_addContent_L3 F F w a0 x1 y2
set_option maxHeartbeats 4000000 in
set_option maxRecDepth 100000 in
theorem zm_Ls_addContent_j71 {X : zg_X} {D : va_G} {G : zw_G} {A : Nat → Prop} {F : Nat} {k3 : zw_T → Nat → Int32 → Int32 → Option (zw_T)} {r : zw_T} (hX : zg_ok X cLs_addContent RLs 3 1 21 128 0 D G A) (hr : zg_rt X = none) (hm : zg_nm X = yLs_addContent.name) (hk3 : ∀ (w : zw_T) (a0 : Nat) (x1 : Int32) (x2 : Int32), k3 w a0 x1 x2 = some r → zg X D G A (zg_Q X D G A 128 0 (zr_v r)) 128 0 w 3 [some (va_rf (some a0)), some (.int x1), some (.int x2)] []) (w : zw_T) (a0 : Nat) (x1 : Int32) (x2 : Int32) (h : zf_Ls_addContent_j71 F k3 w a0 x1 x2 = some r) : zg X D G A (zg_Q X D G A 128 0 (zr_v r)) 128 0 w 71 [some (va_rf (some a0)), some (.int x1), some (.int x2)] [] := by
  unfold zf_Ls_addContent_j71 at h
  refine zg_iinc hX dLs_addContent_71 (-1 : Int32) rfl (by decide) (Nat.le_of_ble_eq_true rfl) rfl h (fun y71 h => ?_)
  refine zg_goto (tgt := 3) hX dLs_addContent_74 rfl ?_
  exact zg_sub (zl_k (zl_k (zl_k zl_n))) (hk3 w a0 x1 y71 h)
set_option maxHeartbeats 4000000 in
set_option maxRecDepth 100000 in
theorem zm_Ls_addContent_L3 {X : zg_X} {D : va_G} {G : zw_G} {A : Nat → Prop} {F : Nat} {r : zw_T} (hX : zg_ok X cLs_addContent RLs 3 1 21 128 0 D G A) (hr : zg_rt X = none) (hm : zg_nm X = yLs_addContent.name) : ∀ (n : Nat) (w : zw_T) (a0 : Nat) (x1 : Int32) (x2 : Int32), zf_Ls_addContent_L3 F n w a0 x1 x2 = some r → zg X D G A (zg_Q X D G A 128 0 (zr_v r)) 128 0 w 3 [some (va_rf (some a0)), some (.int x1), some (.int x2)] [] := by
  intro n
  induction n with
  | zero =>
    intro w a0 x1 x2 h
    unfold zf_Ls_addContent_L3 at h
    cases h
  | succ n ih =>
    intro w a0 x1 x2 h
    rw [zf_Ls_addContent_L3] at h
    refine zg_iload_n hX dLs_addContent_3 rfl ?_
    refine zg_if_lt (tgt := 77) hX dLs_addContent_4 rfl h (fun h => ?_) (fun h => ?_)
    · cases h
      exact zg_vret hX hr (by decide) dLs_addContent_77
    · refine zg_aload_n (x := (some a0)) hX dLs_addContent_7 rfl ?_
      refine zg_dup hX dLs_addContent_8 rfl ?_
      refine zg_getI (ci := 4) (k := 6) hc_4 (by decide) (by decide) hin_4 zx_72 ft_4_6 hX dLs_addContent_9 h (fun a9 h => ?_)
      refine zg_iload_n hX dLs_addContent_12 rfl ?_
      refine zg_iload_n hX dLs_addContent_13 rfl ?_
      refine zg_iushr hX dLs_addContent_14 ?_
      refine zg_iconst hX dLs_addContent_15 (1 : Int32) (by decide) ?_
      refine zg_iand hX dLs_addContent_16 ?_
      refine zg_aload_n (x := (some a0)) hX dLs_addContent_17 rfl ?_
      refine zg_getI (ci := 4) (k := 7) hc_4 (by decide) (by decide) hin_4 zx_73 ft_4_7 hX dLs_addContent_18 h (fun a18 h => ?_)
      refine zg_ishl hX dLs_addContent_21 ?_
      refine zg_ior hX dLs_addContent_22 ?_
      refine zg_putI (ci := 4) (k := 6) hc_4 (by decide) (by decide) hin_4 zx_72 ft_4_6 tyLs okLs nmLs rfl (vp_nar_int _) rfl hX dLs_addContent_23 h (fun w23 h => ?_)
      refine zg_aload_n (x := (some a0)) hX dLs_addContent_26 rfl ?_
      refine zg_dup hX dLs_addContent_27 rfl ?_
      refine zg_getI (ci := 4) (k := 7) hc_4 (by decide) (by decide) hin_4 zx_73 ft_4_7 hX dLs_addContent_28 h (fun a28 h => ?_)
      refine zg_iconst hX dLs_addContent_31 (1 : Int32) (by decide) ?_
      refine zg_iadd hX dLs_addContent_32 ?_
      refine zg_putI (ci := 4) (k := 7) hc_4 (by decide) (by decide) hin_4 zx_73 ft_4_7 tyLs okLs nmLs rfl (vp_nar_int _) rfl hX dLs_addContent_33 h (fun w33 h => ?_)
      refine zg_aload_n (x := (some a0)) hX dLs_addContent_36 rfl ?_
      refine zg_getI (ci := 4) (k := 7) hc_4 (by decide) (by decide) hin_4 zx_73 ft_4_7 hX dLs_addContent_37 h (fun a37 h => ?_)
      refine zg_aload_n (x := (some a0)) hX dLs_addContent_40 rfl ?_
      refine zg_getR (ci := 4) (k := 3) hc_4 (by decide) (by decide) hin_4 zx_69 ft_4_3 hX dLs_addContent_41 h (fun a41 h => ?_)
      refine zg_getR (ci := 1) (k := 0) hc_1 (by decide) (by decide) hin_1 zx_339 ft_1_0 hX dLs_addContent_44 h (fun a44 h => ?_)
      refine zg_getI (ci := 2) (k := 7) hc_2 (by decide) (by decide) hin_2 zx_198 ft_2_7 hX dLs_addContent_47 h (fun a47 h => ?_)
      refine zg_icmp_ne (tgt := 71) hX dLs_addContent_50 rfl h (fun h => ?_) (fun h => ?_)
      · refine zg_aload_n (x := (some a0)) hX dLs_addContent_53 rfl ?_
        refine zg_aload_n (x := (some a0)) hX dLs_addContent_54 rfl ?_
        refine zg_getI (ci := 4) (k := 6) hc_4 (by decide) (by decide) hin_4 zx_72 ft_4_6 hX dLs_addContent_55 h (fun a55 h => ?_)
        obtain ⟨a58, e58, t58, h⟩ := zf_at_e h
        obtain ⟨w58, q58, h⟩ := zf_bv_e h
        refine zg_callV_v (mcy := 0) (w1 := w58) (st := []) hc_4 (by decide) e58 t58 [.int (zw_I w33 1262 a55 0)] (fun l => zm_Ls_addSign l D G A F w33 a58 (zw_I w33 1262 a55 0) w58 q58) (zt_V zx_567 zx_569 zs_13 zx_4 zx_570) rfl hd_Ls_addSign (by decide) (by decide) (by decide) (Nat.le_of_ble_eq_true rfl) rfl rfl hX dLs_addContent_58 ?_
        refine zg_aload_n (x := (some a0)) hX dLs_addContent_61 rfl ?_
        refine zg_iconst hX dLs_addContent_62 (0 : Int32) (by decide) ?_
        refine zg_putI (ci := 4) (k := 6) hc_4 (by decide) (by decide) hin_4 zx_72 ft_4_6 tyLs okLs nmLs rfl (vp_nar_int _) rfl hX dLs_addContent_63 h (fun w63 h => ?_)
        refine zg_aload_n (x := (some a0)) hX dLs_addContent_66 rfl ?_
        refine zg_iconst hX dLs_addContent_67 (0 : Int32) (by decide) ?_
        refine zg_putI (ci := 4) (k := 7) hc_4 (by decide) (by decide) hin_4 zx_73 ft_4_7 tyLs okLs nmLs rfl (vp_nar_int _) rfl hX dLs_addContent_68 h (fun w68 h => ?_)
        exact zg_sub (zl_k (zl_k (zl_k zl_n))) (zm_Ls_addContent_j71 hX hr hm ih w68 a0 x1 x2 h)
      · exact zg_sub (zl_k (zl_k (zl_k zl_n))) (zm_Ls_addContent_j71 hX hr hm ih w33 a0 x1 x2 h)
set_option maxHeartbeats 4000000 in
set_option maxRecDepth 100000 in
theorem zm_Ls_addContent (l : Launch) (D : va_G) (G : zw_G) (A : Nat → Prop) (F : Nat) (w : zw_T) (a0 : Nat) (x1 : Int32) (r : zw_T) (h : zf_Ls_addContent F w a0 x1 = some r) : zc l yLs_addContent wsLs_addContent 1 21 128 0 D G A [.ref a0, .int x1] w (zr_v r) := by
  refine zc_of (ret := none) [some (va_rf (some a0)), some (.int x1), none] (plainFor_of_name (by decide +kernel)) rfl (Nat.le_of_ble_eq_true rfl) rfl rfl (fun X hX hr hm => ?_)
  unfold zf_Ls_addContent at h
  refine zg_bipush hX dLs_addContent_0 (19 : Int32) (by decide) ?_
  refine zg_istore_n hX dLs_addContent_2 (Nat.le_of_ble_eq_true rfl) rfl h (fun y2 h => ?_)
  exact zg_sub (zl_k (zl_k (zl_k zl_n))) (zm_Ls_addContent_L3 hX hr hm F w a0 x1 y2 h)
def zf_Pg_calledBy_j46 (F : Nat) (k2 : zw_T → Nat → Int32 → Int32 → Int32 → Option (Option Nat × zw_T)) (w : zw_T) (a0 : Nat) (x1 : Int32) (x2 : Int32) (x3 : Int32) : Option (Option Nat × zw_T) :=
  zf_let (x3 + (1 : Int32)) fun y46 =>
  k2 w a0 x1 x2 y46
def zf_Pg_calledBy_L2 (F : Nat) : Nat → zw_T → Nat → Int32 → Int32 → Int32 → Option (Option Nat × zw_T)
  | 0, _, _, _, _, _ => none
  | n + 1, w, a0, x1, x2, x3 =>
  zf_at w 7 (some a0) fun a4 =>
  if (zw_I w 1385 a4 0) ≤ x3 then (
  some (none, w))
  else (
  zf_at w 7 (some a0) fun a11 =>
  zf_ix w 401 (zw_R w 1384 a11 0) x3 fun a15 j15 =>
  zf_at w 2 (zw_R w 401 a15 j15) fun a16 =>
  zf_let (zw_R w 1064 a16 0) fun y19 =>
  zf_at w 3 y19 fun a23 =>
  if (zw_I w 1131 a23 0) = x2 then (
  zf_at w 3 y19 fun a32 =>
  if (zw_I w 1132 a32 0) = x1 then (
  zf_at w 7 (some a0) fun a40 =>
  zf_ix w 401 (zw_R w 1384 a40 0) x3 fun a44 j44 =>
  some ((zw_R w 401 a44 j44), w))
  else (
  zf_Pg_calledBy_j46 F (zf_Pg_calledBy_L2 F n) w a0 x1 x2 x3))
  else (
  zf_Pg_calledBy_j46 F (zf_Pg_calledBy_L2 F n) w a0 x1 x2 x3))
def zf_Pg_calledBy (F : Nat) (w : zw_T) (a0 : Nat) (x1 : Int32) (x2 : Int32) : Option (Option Nat × zw_T) :=
  zf_let (0 : Int32) fun y1 =>
  zf_Pg_calledBy_L2 F F w a0 x1 x2 y1
set_option maxHeartbeats 4000000 in
set_option maxRecDepth 100000 in
theorem zm_Pg_calledBy_j46 {X : zg_X} {D : va_G} {G : zw_G} {A : Nat → Prop} {F : Nat} {k2 : zw_T → Nat → Int32 → Int32 → Int32 → Option (Option Nat × zw_T)} {r : Option Nat × zw_T} (hX : zg_ok X cPg_calledBy RPg 5 0 0 128 0 D G A) (hr : zg_rt X = some (.object "WakingPagers$Heard")) (hm : zg_nm X = yPg_calledBy.name) (hk2 : ∀ (w : zw_T) (a0 : Nat) (x1 : Int32) (x2 : Int32) (x3 : Int32), k2 w a0 x1 x2 x3 = some r → zg X D G A (zg_Q X D G A 128 0 (zr_r r)) 128 0 w 2 [some (va_rf (some a0)), some (.int x1), some (.int x2), some (.int x3), none] []) (w : zw_T) (a0 : Nat) (x1 : Int32) (x2 : Int32) (x3 : Int32) (h : zf_Pg_calledBy_j46 F k2 w a0 x1 x2 x3 = some r) : zg X D G A (zg_Q X D G A 128 0 (zr_r r)) 128 0 w 46 [some (va_rf (some a0)), some (.int x1), some (.int x2), some (.int x3), none] [] := by
  unfold zf_Pg_calledBy_j46 at h
  refine zg_iinc hX dPg_calledBy_46 (1 : Int32) rfl (by decide) (Nat.le_of_ble_eq_true rfl) rfl h (fun y46 h => ?_)
  refine zg_goto (tgt := 2) hX dPg_calledBy_49 rfl ?_
  exact zg_sub (zl_k (zl_k (zl_k (zl_k (zl_d zl_n))))) (hk2 w a0 x1 x2 y46 h)
set_option maxHeartbeats 4000000 in
set_option maxRecDepth 100000 in
theorem zm_Pg_calledBy_L2 {X : zg_X} {D : va_G} {G : zw_G} {A : Nat → Prop} {F : Nat} {r : Option Nat × zw_T} (hX : zg_ok X cPg_calledBy RPg 5 0 0 128 0 D G A) (hr : zg_rt X = some (.object "WakingPagers$Heard")) (hm : zg_nm X = yPg_calledBy.name) : ∀ (n : Nat) (w : zw_T) (a0 : Nat) (x1 : Int32) (x2 : Int32) (x3 : Int32), zf_Pg_calledBy_L2 F n w a0 x1 x2 x3 = some r → zg X D G A (zg_Q X D G A 128 0 (zr_r r)) 128 0 w 2 [some (va_rf (some a0)), some (.int x1), some (.int x2), some (.int x3), none] [] := by
  intro n
  induction n with
  | zero =>
    intro w a0 x1 x2 x3 h
    unfold zf_Pg_calledBy_L2 at h
    cases h
  | succ n ih =>
    intro w a0 x1 x2 x3 h
    rw [zf_Pg_calledBy_L2] at h
    refine zg_iload_n hX dPg_calledBy_2 rfl ?_
    refine zg_aload_n (x := (some a0)) hX dPg_calledBy_3 rfl ?_
    refine zg_getI (ci := 6) (k := 1) hc_6 (by decide) (by decide) hin_6 zx_275 ft_6_1 hX dPg_calledBy_4 h (fun a4 h => ?_)
    refine zg_icmp_ge (tgt := 52) hX dPg_calledBy_7 rfl h (fun h => ?_) (fun h => ?_)
    · refine zg_null hX dPg_calledBy_52 ?_
      cases h
      exact zg_aret _ hX hr (Or.inl ⟨_, rfl⟩) (by decide) dPg_calledBy_53
    · refine zg_aload_n (x := (some a0)) hX dPg_calledBy_10 rfl ?_
      refine zg_getR (ci := 6) (k := 0) hc_6 (by decide) (by decide) hin_6 zx_274 ft_6_0 hX dPg_calledBy_11 h (fun a11 h => ?_)
      refine zg_iload_n hX dPg_calledBy_14 rfl ?_
      refine zg_aald (ci := 1) (t0 := 3) rfl hX dPg_calledBy_15 h (fun a15 j15 h => ?_)
      refine zg_getR (ci := 1) (k := 0) hc_1 (by decide) (by decide) hin_1 zx_338 ft_1_0 hX dPg_calledBy_16 h (fun a16 h => ?_)
      refine zg_astore hX dPg_calledBy_19 (Nat.le_of_ble_eq_true rfl) rfl h (fun y19 h => ?_)
      refine zg_aload (x := y19) hX dPg_calledBy_21 rfl ?_
      refine zg_getI (ci := 2) (k := 3) hc_2 (by decide) (by decide) hin_2 zx_187 ft_2_3 hX dPg_calledBy_23 h (fun a23 h => ?_)
      refine zg_iload_n hX dPg_calledBy_26 rfl ?_
      refine zg_icmp_ne (tgt := 46) hX dPg_calledBy_27 rfl h (fun h => ?_) (fun h => ?_)
      · refine zg_aload (x := y19) hX dPg_calledBy_30 rfl ?_
        refine zg_getI (ci := 2) (k := 4) hc_2 (by decide) (by decide) hin_2 zx_191 ft_2_4 hX dPg_calledBy_32 h (fun a32 h => ?_)
        refine zg_iload_n hX dPg_calledBy_35 rfl ?_
        refine zg_icmp_ne (tgt := 46) hX dPg_calledBy_36 rfl h (fun h => ?_) (fun h => ?_)
        · refine zg_aload_n (x := (some a0)) hX dPg_calledBy_39 rfl ?_
          refine zg_getR (ci := 6) (k := 0) hc_6 (by decide) (by decide) hin_6 zx_274 ft_6_0 hX dPg_calledBy_40 h (fun a40 h => ?_)
          refine zg_iload_n hX dPg_calledBy_43 rfl ?_
          refine zg_aald (ci := 1) (t0 := 3) rfl hX dPg_calledBy_44 h (fun a44 j44 h => ?_)
          cases h
          exact zg_aret _ hX hr (Or.inl ⟨_, rfl⟩) (by decide) dPg_calledBy_45
        · exact zg_sub (zl_k (zl_k (zl_k (zl_k (zl_d zl_n))))) (zm_Pg_calledBy_j46 hX hr hm ih w a0 x1 x2 x3 h)
      · exact zg_sub (zl_k (zl_k (zl_k (zl_k (zl_d zl_n))))) (zm_Pg_calledBy_j46 hX hr hm ih w a0 x1 x2 x3 h)
set_option maxHeartbeats 4000000 in
set_option maxRecDepth 100000 in
theorem zm_Pg_calledBy (l : Launch) (D : va_G) (G : zw_G) (A : Nat → Prop) (F : Nat) (w : zw_T) (a0 : Nat) (x1 : Int32) (x2 : Int32) (r : Option Nat × zw_T) (h : zf_Pg_calledBy F w a0 x1 x2 = some r) : zc l yPg_calledBy wsPg_calledBy 0 0 128 0 D G A [.ref a0, .int x1, .int x2] w (zr_r r) := by
  refine zc_of (ret := some (.object "WakingPagers$Heard")) [some (va_rf (some a0)), some (.int x1), some (.int x2), none, none] (plainFor_of_name (by decide +kernel)) rfl (Nat.le_of_ble_eq_true rfl) rfl rfl (fun X hX hr hm => ?_)
  unfold zf_Pg_calledBy at h
  refine zg_iconst hX dPg_calledBy_0 (0 : Int32) (by decide) ?_
  refine zg_istore_n hX dPg_calledBy_1 (Nat.le_of_ble_eq_true rfl) rfl h (fun y1 h => ?_)
  exact zg_sub (zl_k (zl_k (zl_k (zl_k (zl_d zl_n))))) (zm_Pg_calledBy_L2 hX hr hm F w a0 x1 x2 y1 h)
def zf_Ls_beginMessage (F : Nat) (w : zw_T) (a0 : Nat) (o1 : Option Nat) : Option (zw_T) :=
  zf_at w 5 (some a0) fun a2 => zf_let (zw_sR w 1259 a2 0 o1) fun w2 =>
  zf_at w2 5 (some a0) fun a7 => zf_let (zw_sI w2 1261 a7 0 (0 : Int32)) fun w7 =>
  zf_at w7 5 (some a0) fun a12 => zf_let (zw_sI w7 1262 a12 0 (0 : Int32)) fun w12 =>
  zf_at w12 5 (some a0) fun a17 => zf_let (zw_sI w12 1263 a17 0 (0 : Int32)) fun w17 =>
  some w17
set_option maxHeartbeats 4000000 in
set_option maxRecDepth 100000 in
theorem zm_Ls_beginMessage (l : Launch) (D : va_G) (G : zw_G) (A : Nat → Prop) (F : Nat) (w : zw_T) (a0 : Nat) (o1 : Option Nat) (r : zw_T) (h : zf_Ls_beginMessage F w a0 o1 = some r) : zc l yLs_beginMessage wsLs_beginMessage 0 0 128 0 D G A [.ref a0, va_rf o1] w (zr_v r) := by
  refine zc_of (ret := none) [some (va_rf (some a0)), some (va_rf o1)] (plainFor_of_name (by decide +kernel)) rfl (by cases o1 <;> exact Nat.le_of_ble_eq_true rfl) rfl rfl (fun X hX hr hm => ?_)
  unfold zf_Ls_beginMessage at h
  refine zg_aload_n (x := (some a0)) hX dLs_beginMessage_0 rfl ?_
  refine zg_aload_n (x := o1) hX dLs_beginMessage_1 rfl ?_
  refine zg_putR (ci := 4) (k := 3) hc_4 (by decide) (by decide) hin_4 zx_69 ft_4_3 tyLs okLs nmLs rfl (zv_no _ _).1 (zv_no _ _).2 hX dLs_beginMessage_2 h (fun w2 h => ?_)
  refine zg_aload_n (x := (some a0)) hX dLs_beginMessage_5 rfl ?_
  refine zg_iconst hX dLs_beginMessage_6 (0 : Int32) (by decide) ?_
  refine zg_putI (ci := 4) (k := 5) hc_4 (by decide) (by decide) hin_4 zx_71 ft_4_5 tyLs okLs nmLs rfl (vp_nar_int _) rfl hX dLs_beginMessage_7 h (fun w7 h => ?_)
  refine zg_aload_n (x := (some a0)) hX dLs_beginMessage_10 rfl ?_
  refine zg_iconst hX dLs_beginMessage_11 (0 : Int32) (by decide) ?_
  refine zg_putI (ci := 4) (k := 6) hc_4 (by decide) (by decide) hin_4 zx_72 ft_4_6 tyLs okLs nmLs rfl (vp_nar_int _) rfl hX dLs_beginMessage_12 h (fun w12 h => ?_)
  refine zg_aload_n (x := (some a0)) hX dLs_beginMessage_15 rfl ?_
  refine zg_iconst hX dLs_beginMessage_16 (0 : Int32) (by decide) ?_
  refine zg_putI (ci := 4) (k := 7) hc_4 (by decide) (by decide) hin_4 zx_73 ft_4_7 tyLs okLs nmLs rfl (vp_nar_int _) rfl hX dLs_beginMessage_17 h (fun w17 h => ?_)
  cases h
  exact zg_vret hX hr (by decide) dLs_beginMessage_20
def zf_Ls_takeWord_j92 (F : Nat) (w : zw_T) (a0 : Nat) (x1 : Int32) (x2 : Int32) (x3 : Int32) : Option (zw_T) :=
  zf_at w 5 (some a0) fun a94 =>
  zf_bv (zf_Ls_endMessage F w a94 (0 : Int32)) fun w94 =>
  zf_at w94 5 (some a0) fun a99 =>
  zf_at w94 7 (zw_R w94 1257 a99 0) fun a106 =>
  zf_bd (zf_Pg_calledBy F w94 a106 (x1 ^^^ x3) x2) fun v106 w106 =>
  zf_at w106 5 (some a0) fun a109 =>
  zf_bv (zf_Ls_beginMessage F w106 a109 v106) fun w109 =>
  some w109
def zf_Ls_takeWord (F : Nat) (w : zw_T) (a0 : Nat) (x1 : Int32) (x2 : Int32) : Option (zw_T) :=
  zf_at w 5 (some a0) fun a1 =>
  zf_at w 7 (zw_R w 1257 a1 0) fun a5 =>
  zf_at w 7 (zw_R w 1257 a1 0) fun a11 => zf_let (zw_sI w 1389 a11 0 ((zw_I w 1389 a5 0) + (32 : Int32))) fun w11 =>
  zf_bd (zf_Rp_wrongBits F w11 x1) fun v15 w15 =>
  zf_let v15 fun y18 =>
  if y18 = (-1 : Int32) then (
  zf_at w15 5 (some a0) fun a25 =>
  zf_at w15 7 (zw_R w15 1257 a25 0) fun a29 =>
  zf_at w15 7 (zw_R w15 1257 a25 0) fun a34 => zf_let (zw_sI w15 1391 a34 0 ((zw_I w15 1391 a29 0) + (1 : Int32))) fun w34 =>
  zf_at w34 5 (some a0) fun a39 =>
  zf_bv (zf_Ls_endMessage F w34 a39 (1 : Int32)) fun w39 =>
  some w39)
  else (
  zf_at w15 5 (some a0) fun a44 =>
  zf_at w15 7 (zw_R w15 1257 a44 0) fun a48 =>
  zf_bd (zf_In_bitCount F w15 y18) fun v52 w52 =>
  zf_at w52 7 (zw_R w15 1257 a44 0) fun a56 => zf_let (zw_sI w52 1390 a56 0 ((zw_I w15 1390 a48 0) + v52)) fun w56 =>
  zf_let (zi_ushr (x1 ^^^ y18) (11 : Int32)) fun y65 =>
  zf_at w56 5 (some a0) fun a68 =>
  if (zw_R w56 1259 a68 0) = none then (
  zf_Ls_takeWord_j92 F w56 a0 x1 x2 y18)
  else (
  if (y65 &&& (1048576 : Int32)) = 0 then (
  zf_Ls_takeWord_j92 F w56 a0 x1 x2 y18)
  else (
  zf_at w56 5 (some a0) fun a88 =>
  zf_bv (zf_Ls_addContent F w56 a88 (y65 &&& (1048575 : Int32))) fun w88 =>
  some w88)))
set_option maxHeartbeats 4000000 in
set_option maxRecDepth 100000 in
theorem zm_Ls_takeWord_j92 {X : zg_X} {D : va_G} {G : zw_G} {A : Nat → Prop} {F : Nat} {r : zw_T} (hX : zg_ok X cLs_takeWord RLs 5 3 88 128 0 D G A) (hr : zg_rt X = none) (hm : zg_nm X = yLs_takeWord.name) (w : zw_T) (a0 : Nat) (x1 : Int32) (x2 : Int32) (x3 : Int32) (h : zf_Ls_takeWord_j92 F w a0 x1 x2 x3 = some r) : zg X D G A (zg_Q X D G A 128 0 (zr_v r)) 128 0 w 92 [some (va_rf (some a0)), some (.int x1), some (.int x2), some (.int x3), none] [] := by
  unfold zf_Ls_takeWord_j92 at h
  refine zg_aload_n (x := (some a0)) hX dLs_takeWord_92 rfl ?_
  refine zg_iconst hX dLs_takeWord_93 (0 : Int32) (by decide) ?_
  obtain ⟨a94, e94, t94, h⟩ := zf_at_e h
  obtain ⟨w94, q94, h⟩ := zf_bv_e h
  refine zg_callV_v (mcy := 0) (w1 := w94) (st := []) hc_4 (by decide) e94 t94 [.int (0 : Int32)] (fun l => zm_Ls_endMessage l D G A F w a94 (0 : Int32) w94 q94) (zt_V zx_530 zx_532 zs_10 zx_4 zx_533) rfl hd_Ls_endMessage (by decide) (by decide) (by decide) (Nat.le_of_ble_eq_true rfl) rfl rfl hX dLs_takeWord_94 ?_
  refine zg_aload_n (x := (some a0)) hX dLs_takeWord_97 rfl ?_
  refine zg_aload_n (x := (some a0)) hX dLs_takeWord_98 rfl ?_
  refine zg_getR (ci := 4) (k := 1) hc_4 (by decide) (by decide) hin_4 zx_67 ft_4_1 hX dLs_takeWord_99 h (fun a99 h => ?_)
  refine zg_iload_n hX dLs_takeWord_102 rfl ?_
  refine zg_iload_n hX dLs_takeWord_103 rfl ?_
  refine zg_ixor hX dLs_takeWord_104 ?_
  refine zg_iload_n hX dLs_takeWord_105 rfl ?_
  obtain ⟨a106, e106, t106, h⟩ := zf_at_e h
  obtain ⟨v106, w106, q106, h⟩ := zf_bd_e h
  refine zg_callV_r (mcy := 0) (v := v106) (w1 := w106) (st := [va_rf (some a0)]) hc_6 (by decide) e106 t106 [.int (x1 ^^^ x3), .int x2] (fun l => zm_Pg_calledBy l D G A F w94 a106 (x1 ^^^ x3) x2 (v106, w106) q106) (zt_V zx_571 zx_572 zx_573 zx_9 zx_574) rfl hd_Pg_calledBy (by decide) (by decide) (by decide) (Nat.le_of_ble_eq_true rfl) rfl rfl hX dLs_takeWord_106 ?_
  obtain ⟨a109, e109, t109, h⟩ := zf_at_e h
  obtain ⟨w109, q109, h⟩ := zf_bv_e h
  refine zg_callV_v (mcy := 0) (w1 := w109) (st := []) hc_4 (by decide) e109 t109 [va_rf v106] (fun l => zm_Ls_beginMessage l D G A F w106 a109 v106 w109 q109) (zt_V zx_575 zx_577 zs_14 zx_4 zx_578) rfl hd_Ls_beginMessage (by decide) (by decide) (by decide) (Nat.le_of_ble_eq_true rfl) rfl rfl hX dLs_takeWord_109 ?_
  cases h
  exact zg_vret hX hr (by decide) dLs_takeWord_112
set_option maxHeartbeats 4000000 in
set_option maxRecDepth 100000 in
theorem zm_Ls_takeWord (l : Launch) (D : va_G) (G : zw_G) (A : Nat → Prop) (F : Nat) (w : zw_T) (a0 : Nat) (x1 : Int32) (x2 : Int32) (r : zw_T) (h : zf_Ls_takeWord F w a0 x1 x2 = some r) : zc l yLs_takeWord wsLs_takeWord 3 88 128 0 D G A [.ref a0, .int x1, .int x2] w (zr_v r) := by
  refine zc_of (ret := none) [some (va_rf (some a0)), some (.int x1), some (.int x2), none, none] (plainFor_of_name (by decide +kernel)) rfl (Nat.le_of_ble_eq_true rfl) rfl rfl (fun X hX hr hm => ?_)
  unfold zf_Ls_takeWord at h
  refine zg_aload_n (x := (some a0)) hX dLs_takeWord_0 rfl ?_
  refine zg_getR (ci := 4) (k := 1) hc_4 (by decide) (by decide) hin_4 zx_67 ft_4_1 hX dLs_takeWord_1 h (fun a1 h => ?_)
  refine zg_dup hX dLs_takeWord_4 (zv_cat _) ?_
  refine zg_getI (ci := 6) (k := 5) hc_6 (by decide) (by decide) hin_6 zx_282 ft_6_5 hX dLs_takeWord_5 h (fun a5 h => ?_)
  refine zg_bipush hX dLs_takeWord_8 (32 : Int32) (by decide) ?_
  refine zg_iadd hX dLs_takeWord_10 ?_
  refine zg_putI (ci := 6) (k := 5) hc_6 (by decide) (by decide) hin_6 zx_282 ft_6_5 tyPg okPg nmPg rfl (vp_nar_int _) rfl hX dLs_takeWord_11 h (fun w11 h => ?_)
  refine zg_iload_n hX dLs_takeWord_14 rfl ?_
  obtain ⟨v15, w15, q15, h⟩ := zf_bd_e h
  refine zg_callS_i (mcy := 0) (v := v15) (w1 := w15) (st := []) [.int x1] (fun l => zm_Rp_wrongBits l D G A F w11 x1 (v15, w15) q15) (zt_S zx_529 zx_150 zx_6 zx_151) rfl hd_Rp_wrongBits (by decide) (by decide) (by decide) (Nat.le_of_ble_eq_true rfl) rfl rfl hX dLs_takeWord_15 ?_
  refine zg_istore_n hX dLs_takeWord_18 (Nat.le_of_ble_eq_true rfl) rfl h (fun y18 h => ?_)
  refine zg_iload_n hX dLs_takeWord_19 rfl ?_
  refine zg_iconst hX dLs_takeWord_20 (-1 : Int32) (by decide) ?_
  refine zg_icmp_ne (tgt := 43) hX dLs_takeWord_21 rfl h (fun h => ?_) (fun h => ?_)
  · refine zg_aload_n (x := (some a0)) hX dLs_takeWord_24 rfl ?_
    refine zg_getR (ci := 4) (k := 1) hc_4 (by decide) (by decide) hin_4 zx_67 ft_4_1 hX dLs_takeWord_25 h (fun a25 h => ?_)
    refine zg_dup hX dLs_takeWord_28 (zv_cat _) ?_
    refine zg_getI (ci := 6) (k := 7) hc_6 (by decide) (by decide) hin_6 zx_288 ft_6_7 hX dLs_takeWord_29 h (fun a29 h => ?_)
    refine zg_iconst hX dLs_takeWord_32 (1 : Int32) (by decide) ?_
    refine zg_iadd hX dLs_takeWord_33 ?_
    refine zg_putI (ci := 6) (k := 7) hc_6 (by decide) (by decide) hin_6 zx_288 ft_6_7 tyPg okPg nmPg rfl (vp_nar_int _) rfl hX dLs_takeWord_34 h (fun w34 h => ?_)
    refine zg_aload_n (x := (some a0)) hX dLs_takeWord_37 rfl ?_
    refine zg_iconst hX dLs_takeWord_38 (1 : Int32) (by decide) ?_
    obtain ⟨a39, e39, t39, h⟩ := zf_at_e h
    obtain ⟨w39, q39, h⟩ := zf_bv_e h
    refine zg_callV_v (mcy := 0) (w1 := w39) (st := []) hc_4 (by decide) e39 t39 [.int (1 : Int32)] (fun l => zm_Ls_endMessage l D G A F w34 a39 (1 : Int32) w39 q39) (zt_V zx_530 zx_532 zs_10 zx_4 zx_533) rfl hd_Ls_endMessage (by decide) (by decide) (by decide) (Nat.le_of_ble_eq_true rfl) rfl rfl hX dLs_takeWord_39 ?_
    cases h
    exact zg_vret hX hr (by decide) dLs_takeWord_42
  · refine zg_aload_n (x := (some a0)) hX dLs_takeWord_43 rfl ?_
    refine zg_getR (ci := 4) (k := 1) hc_4 (by decide) (by decide) hin_4 zx_67 ft_4_1 hX dLs_takeWord_44 h (fun a44 h => ?_)
    refine zg_dup hX dLs_takeWord_47 (zv_cat _) ?_
    refine zg_getI (ci := 6) (k := 6) hc_6 (by decide) (by decide) hin_6 zx_285 ft_6_6 hX dLs_takeWord_48 h (fun a48 h => ?_)
    refine zg_iload_n hX dLs_takeWord_51 rfl ?_
    obtain ⟨v52, w52, q52, h⟩ := zf_bd_e h
    refine zg_callS_i (mcy := 0) (v := v52) (w1 := w52) (st := [.int (zw_I w15 1390 a48 0), va_rf (zw_R w15 1257 a44 0)]) [.int y18] (fun l => zm_In_bitCount l D G A F w15 y18 (v52, w52) q52) (zt_S zx_560 zx_140 zx_7 zx_141) rfl hd_In_bitCount (by decide) (by decide) (by decide) (Nat.le_trans (zv_s rfl (zv_s (zv_cat _) zv_s0)) (by decide)) rfl rfl hX dLs_takeWord_52 ?_
    refine zg_iadd hX dLs_takeWord_55 ?_
    refine zg_putI (ci := 6) (k := 6) hc_6 (by decide) (by decide) hin_6 zx_285 ft_6_6 tyPg okPg nmPg rfl (vp_nar_int _) rfl hX dLs_takeWord_56 h (fun w56 h => ?_)
    refine zg_iload_n hX dLs_takeWord_59 rfl ?_
    refine zg_iload_n hX dLs_takeWord_60 rfl ?_
    refine zg_ixor hX dLs_takeWord_61 ?_
    refine zg_bipush hX dLs_takeWord_62 (11 : Int32) (by decide) ?_
    refine zg_iushr hX dLs_takeWord_64 ?_
    refine zg_istore hX dLs_takeWord_65 (Nat.le_of_ble_eq_true rfl) rfl h (fun y65 h => ?_)
    refine zg_aload_n (x := (some a0)) hX dLs_takeWord_67 rfl ?_
    refine zg_getR (ci := 4) (k := 3) hc_4 (by decide) (by decide) hin_4 zx_69 ft_4_3 hX dLs_takeWord_68 h (fun a68 h => ?_)
    refine zg_ifnull (tgt := 92) hX dLs_takeWord_71 rfl h (fun h => ?_) (fun h => ?_)
    · exact zg_sub (zl_k (zl_k (zl_k (zl_k (zl_d zl_n))))) (zm_Ls_takeWord_j92 hX hr hm w56 a0 x1 x2 y18 h)
    · refine zg_iload hX dLs_takeWord_74 rfl ?_
      refine zg_ldc hX dLs_takeWord_76 (1048576 : Int32) zx_561 ?_
      refine zg_iand hX dLs_takeWord_78 ?_
      refine zg_if_eq (tgt := 92) hX dLs_takeWord_79 rfl h (fun h => ?_) (fun h => ?_)
      · exact zg_sub (zl_k (zl_k (zl_k (zl_k (zl_d zl_n))))) (zm_Ls_takeWord_j92 hX hr hm w56 a0 x1 x2 y18 h)
      · refine zg_aload_n (x := (some a0)) hX dLs_takeWord_82 rfl ?_
        refine zg_iload hX dLs_takeWord_83 rfl ?_
        refine zg_ldc hX dLs_takeWord_85 (1048575 : Int32) zx_562 ?_
        refine zg_iand hX dLs_takeWord_87 ?_
        obtain ⟨a88, e88, t88, h⟩ := zf_at_e h
        obtain ⟨w88, q88, h⟩ := zf_bv_e h
        refine zg_callV_v (mcy := 0) (w1 := w88) (st := []) hc_4 (by decide) e88 t88 [.int (y65 &&& (1048575 : Int32))] (fun l => zm_Ls_addContent l D G A F w56 a88 (y65 &&& (1048575 : Int32)) w88 q88) (zt_V zx_563 zx_565 zs_12 zx_4 zx_566) rfl hd_Ls_addContent (by decide) (by decide) (by decide) (Nat.le_of_ble_eq_true rfl) rfl rfl hX dLs_takeWord_88 ?_
        cases h
        exact zg_vret hX hr (by decide) dLs_takeWord_91
def zf_Ls_takeBatch_j67 (F : Nat) (k4 : zw_T → Nat → Int32 → Int32 → Option (Int32 × zw_T)) (w : zw_T) (a0 : Nat) (x2 : Int32) (x3 : Int32) : Option (Int32 × zw_T) :=
  zf_let (x2 + (32 : Int32)) fun y67 =>
  zf_let (x3 + (1 : Int32)) fun y70 =>
  k4 w a0 y67 y70
def zf_Ls_takeBatch_j53 (F : Nat) (k4 : zw_T → Nat → Int32 → Int32 → Option (Int32 × zw_T)) (w : zw_T) (a0 : Nat) (x2 : Int32) (x3 : Int32) (x4 : Int32) : Option (Int32 × zw_T) :=
  zf_at w 5 (some a0) fun a55 =>
  zf_at w 1 (zw_R w 1256 a55 0) fun a59 =>
  zf_bd (zf_Ai_wordAt F w a59 x2) fun v59 w59 =>
  zf_at w59 5 (some a0) fun a64 =>
  zf_bv (zf_Ls_takeWord F w59 a64 v59 x4) fun w64 =>
  zf_Ls_takeBatch_j67 F k4 w64 a0 x2 x3
def zf_Ls_takeBatch_L4 (F : Nat) : Nat → zw_T → Nat → Int32 → Int32 → Option (Int32 × zw_T)
  | 0, _, _, _, _ => none
  | n + 1, w, a0, x2, x3 =>
  if (16 : Int32) ≤ x3 then (
  some (x2, w))
  else (
  zf_at w 5 (some a0) fun a11 =>
  zf_at w 1 (zw_R w 1256 a11 0) fun a15 =>
  zf_bd (zf_Ai_hasWord F w a15 x2) fun v15 w15 =>
  if v15 = 0 then (
  zf_at w15 5 (some a0) fun a22 =>
  zf_at w15 1 (zw_R w15 1256 a22 0) fun a25 =>
  some ((zw_I w15 1001 a25 0), w15))
  else (
  zf_let (x3 / (2 : Int32)) fun y32 =>
  zf_at w15 5 (some a0) fun a35 =>
  if (zw_R w15 1259 a35 0) = none then (
  zf_at w15 5 (some a0) fun a42 =>
  zf_at w15 7 (zw_R w15 1257 a42 0) fun a47 =>
  zf_bd (zf_Pg_hasFrame F w15 a47 y32) fun v47 w47 =>
  if v47 = 0 then (
  zf_Ls_takeBatch_j67 F (zf_Ls_takeBatch_L4 F n) w47 a0 x2 x3)
  else (
  zf_Ls_takeBatch_j53 F (zf_Ls_takeBatch_L4 F n) w47 a0 x2 x3 y32))
  else (
  zf_Ls_takeBatch_j53 F (zf_Ls_takeBatch_L4 F n) w15 a0 x2 x3 y32)))
def zf_Ls_takeBatch (F : Nat) (w : zw_T) (a0 : Nat) (x1 : Int32) : Option (Int32 × zw_T) :=
  zf_let x1 fun y1 =>
  zf_let (0 : Int32) fun y3 =>
  zf_Ls_takeBatch_L4 F F w a0 y1 y3
set_option maxHeartbeats 4000000 in
set_option maxRecDepth 100000 in
theorem zm_Ls_takeBatch_j67 {X : zg_X} {D : va_G} {G : zw_G} {A : Nat → Prop} {F : Nat} {k4 : zw_T → Nat → Int32 → Int32 → Option (Int32 × zw_T)} {r : Int32 × zw_T} (hX : zg_ok X cLs_takeBatch RLs 5 4 112 128 0 D G A) (hr : zg_rt X = some .int) (hm : zg_nm X = yLs_takeBatch.name) (hk4 : ∀ (w : zw_T) (a0 : Nat) (x2 : Int32) (x3 : Int32), k4 w a0 x2 x3 = some r → zg X D G A (zg_Q X D G A 128 0 (zr_i r)) 128 0 w 4 [some (va_rf (some a0)), none, some (.int x2), some (.int x3), none] []) (w : zw_T) (a0 : Nat) (x2 : Int32) (x3 : Int32) (h : zf_Ls_takeBatch_j67 F k4 w a0 x2 x3 = some r) : zg X D G A (zg_Q X D G A 128 0 (zr_i r)) 128 0 w 67 [some (va_rf (some a0)), none, some (.int x2), some (.int x3), none] [] := by
  unfold zf_Ls_takeBatch_j67 at h
  refine zg_iinc hX dLs_takeBatch_67 (32 : Int32) rfl (by decide) (Nat.le_of_ble_eq_true rfl) rfl h (fun y67 h => ?_)
  refine zg_iinc hX dLs_takeBatch_70 (1 : Int32) rfl (by decide) (Nat.le_of_ble_eq_true rfl) rfl h (fun y70 h => ?_)
  refine zg_goto (tgt := 4) hX dLs_takeBatch_73 rfl ?_
  exact zg_sub (zl_k (zl_d (zl_k (zl_k (zl_d zl_n))))) (hk4 w a0 y67 y70 h)
set_option maxHeartbeats 4000000 in
set_option maxRecDepth 100000 in
theorem zm_Ls_takeBatch_j53 {X : zg_X} {D : va_G} {G : zw_G} {A : Nat → Prop} {F : Nat} {k4 : zw_T → Nat → Int32 → Int32 → Option (Int32 × zw_T)} {r : Int32 × zw_T} (hX : zg_ok X cLs_takeBatch RLs 5 4 112 128 0 D G A) (hr : zg_rt X = some .int) (hm : zg_nm X = yLs_takeBatch.name) (hk4 : ∀ (w : zw_T) (a0 : Nat) (x2 : Int32) (x3 : Int32), k4 w a0 x2 x3 = some r → zg X D G A (zg_Q X D G A 128 0 (zr_i r)) 128 0 w 4 [some (va_rf (some a0)), none, some (.int x2), some (.int x3), none] []) (w : zw_T) (a0 : Nat) (x2 : Int32) (x3 : Int32) (x4 : Int32) (h : zf_Ls_takeBatch_j53 F k4 w a0 x2 x3 x4 = some r) : zg X D G A (zg_Q X D G A 128 0 (zr_i r)) 128 0 w 53 [some (va_rf (some a0)), none, some (.int x2), some (.int x3), some (.int x4)] [] := by
  unfold zf_Ls_takeBatch_j53 at h
  refine zg_aload_n (x := (some a0)) hX dLs_takeBatch_53 rfl ?_
  refine zg_aload_n (x := (some a0)) hX dLs_takeBatch_54 rfl ?_
  refine zg_getR (ci := 4) (k := 0) hc_4 (by decide) (by decide) hin_4 zx_66 ft_4_0 hX dLs_takeBatch_55 h (fun a55 h => ?_)
  refine zg_iload_n hX dLs_takeBatch_58 rfl ?_
  obtain ⟨a59, e59, t59, h⟩ := zf_at_e h
  obtain ⟨v59, w59, q59, h⟩ := zf_bd_e h
  refine zg_callV_i (mcy := 0) (v := v59) (w1 := w59) (st := [va_rf (some a0)]) hc_0 (by decide) e59 t59 [.int x2] (fun l => zm_Ai_wordAt l D G A F w a59 x2 (v59, w59) q59) (zt_V zx_521 zx_522 zx_523 zx_3 zx_524) rfl hd_Ai_wordAt (by decide) (by decide) (by decide) (Nat.le_of_ble_eq_true rfl) rfl rfl hX dLs_takeBatch_59 ?_
  refine zg_iload hX dLs_takeBatch_62 rfl ?_
  obtain ⟨a64, e64, t64, h⟩ := zf_at_e h
  obtain ⟨w64, q64, h⟩ := zf_bv_e h
  refine zg_callV_v (mcy := 0) (w1 := w64) (st := []) hc_4 (by decide) e64 t64 [.int v59, .int x4] (fun l => zm_Ls_takeWord l D G A F w59 a64 v59 x4 w64 q64) (zt_V zx_525 zx_527 zs_9 zx_4 zx_528) rfl hd_Ls_takeWord (by decide) (by decide) (by decide) (Nat.le_of_ble_eq_true rfl) rfl rfl hX dLs_takeBatch_64 ?_
  exact zg_sub (zl_k (zl_d (zl_k (zl_k (zl_d zl_n))))) (zm_Ls_takeBatch_j67 hX hr hm hk4 w64 a0 x2 x3 h)
set_option maxHeartbeats 4000000 in
set_option maxRecDepth 100000 in
theorem zm_Ls_takeBatch_L4 {X : zg_X} {D : va_G} {G : zw_G} {A : Nat → Prop} {F : Nat} {r : Int32 × zw_T} (hX : zg_ok X cLs_takeBatch RLs 5 4 112 128 0 D G A) (hr : zg_rt X = some .int) (hm : zg_nm X = yLs_takeBatch.name) : ∀ (n : Nat) (w : zw_T) (a0 : Nat) (x2 : Int32) (x3 : Int32), zf_Ls_takeBatch_L4 F n w a0 x2 x3 = some r → zg X D G A (zg_Q X D G A 128 0 (zr_i r)) 128 0 w 4 [some (va_rf (some a0)), none, some (.int x2), some (.int x3), none] [] := by
  intro n
  induction n with
  | zero =>
    intro w a0 x2 x3 h
    unfold zf_Ls_takeBatch_L4 at h
    cases h
  | succ n ih =>
    intro w a0 x2 x3 h
    rw [zf_Ls_takeBatch_L4] at h
    refine zg_iload_n hX dLs_takeBatch_4 rfl ?_
    refine zg_bipush hX dLs_takeBatch_5 (16 : Int32) (by decide) ?_
    refine zg_icmp_ge (tgt := 76) hX dLs_takeBatch_7 rfl h (fun h => ?_) (fun h => ?_)
    · refine zg_iload_n hX dLs_takeBatch_76 rfl ?_
      cases h
      exact zg_iret hX hr (by decide) dLs_takeBatch_77
    · refine zg_aload_n (x := (some a0)) hX dLs_takeBatch_10 rfl ?_
      refine zg_getR (ci := 4) (k := 0) hc_4 (by decide) (by decide) hin_4 zx_66 ft_4_0 hX dLs_takeBatch_11 h (fun a11 h => ?_)
      refine zg_iload_n hX dLs_takeBatch_14 rfl ?_
      obtain ⟨a15, e15, t15, h⟩ := zf_at_e h
      obtain ⟨v15, w15, q15, h⟩ := zf_bd_e h
      refine zg_callV_i (mcy := 0) (v := v15) (w1 := w15) (st := []) hc_0 (by decide) e15 t15 [.int x2] (fun l => zm_Ai_hasWord l D G A F w a15 x2 (v15, w15) q15) (zt_V zx_509 zx_510 zx_511 zx_3 zx_512) rfl hd_Ai_hasWord (by decide) (by decide) (by decide) (Nat.le_of_ble_eq_true rfl) rfl rfl hX dLs_takeBatch_15 ?_
      refine zg_if_ne (tgt := 29) hX dLs_takeBatch_18 rfl h (fun h => ?_) (fun h => ?_)
      · refine zg_aload_n (x := (some a0)) hX dLs_takeBatch_21 rfl ?_
        refine zg_getR (ci := 4) (k := 0) hc_4 (by decide) (by decide) hin_4 zx_66 ft_4_0 hX dLs_takeBatch_22 h (fun a22 h => ?_)
        refine zg_getI (ci := 0) (k := 1) hc_0 (by decide) (by decide) hin_0 zx_53 ft_0_1 hX dLs_takeBatch_25 h (fun a25 h => ?_)
        cases h
        exact zg_iret hX hr (by decide) dLs_takeBatch_28
      · refine zg_iload_n hX dLs_takeBatch_29 rfl ?_
        refine zg_iconst hX dLs_takeBatch_30 (2 : Int32) (by decide) ?_
        refine zg_idiv hX dLs_takeBatch_31 (by decide) ?_
        refine zg_istore hX dLs_takeBatch_32 (Nat.le_of_ble_eq_true rfl) rfl h (fun y32 h => ?_)
        refine zg_aload_n (x := (some a0)) hX dLs_takeBatch_34 rfl ?_
        refine zg_getR (ci := 4) (k := 3) hc_4 (by decide) (by decide) hin_4 zx_69 ft_4_3 hX dLs_takeBatch_35 h (fun a35 h => ?_)
        refine zg_ifnonnull (tgt := 53) hX dLs_takeBatch_38 rfl h (fun h => ?_) (fun h => ?_)
        · refine zg_aload_n (x := (some a0)) hX dLs_takeBatch_41 rfl ?_
          refine zg_getR (ci := 4) (k := 1) hc_4 (by decide) (by decide) hin_4 zx_67 ft_4_1 hX dLs_takeBatch_42 h (fun a42 h => ?_)
          refine zg_iload hX dLs_takeBatch_45 rfl ?_
          obtain ⟨a47, e47, t47, h⟩ := zf_at_e h
          obtain ⟨v47, w47, q47, h⟩ := zf_bd_e h
          refine zg_callV_i (mcy := 0) (v := v47) (w1 := w47) (st := []) hc_6 (by decide) e47 t47 [.int y32] (fun l => zm_Pg_hasFrame l D G A F w15 a47 y32 (v47, w47) q47) (zt_V zx_517 zx_518 zx_519 zx_9 zx_520) rfl hd_Pg_hasFrame (by decide) (by decide) (by decide) (Nat.le_of_ble_eq_true rfl) rfl rfl hX dLs_takeBatch_47 ?_
          refine zg_if_eq (tgt := 67) hX dLs_takeBatch_50 rfl h (fun h => ?_) (fun h => ?_)
          · exact zg_sub (zl_k (zl_d (zl_k (zl_k (zl_d zl_n))))) (zm_Ls_takeBatch_j67 hX hr hm ih w47 a0 x2 x3 h)
          · exact zg_sub (zl_k (zl_d (zl_k (zl_k (zl_k zl_n))))) (zm_Ls_takeBatch_j53 hX hr hm ih w47 a0 x2 x3 y32 h)
        · exact zg_sub (zl_k (zl_d (zl_k (zl_k (zl_k zl_n))))) (zm_Ls_takeBatch_j53 hX hr hm ih w15 a0 x2 x3 y32 h)
set_option maxHeartbeats 4000000 in
set_option maxRecDepth 100000 in
theorem zm_Ls_takeBatch (l : Launch) (D : va_G) (G : zw_G) (A : Nat → Prop) (F : Nat) (w : zw_T) (a0 : Nat) (x1 : Int32) (r : Int32 × zw_T) (h : zf_Ls_takeBatch F w a0 x1 = some r) : zc l yLs_takeBatch wsLs_takeBatch 4 112 128 0 D G A [.ref a0, .int x1] w (zr_i r) := by
  refine zc_of (ret := some .int) [some (va_rf (some a0)), some (.int x1), none, none, none] (plainFor_of_name (by decide +kernel)) rfl (Nat.le_of_ble_eq_true rfl) rfl rfl (fun X hX hr hm => ?_)
  unfold zf_Ls_takeBatch at h
  refine zg_iload_n hX dLs_takeBatch_0 rfl ?_
  refine zg_istore_n hX dLs_takeBatch_1 (Nat.le_of_ble_eq_true rfl) rfl h (fun y1 h => ?_)
  refine zg_iconst hX dLs_takeBatch_2 (0 : Int32) (by decide) ?_
  refine zg_istore_n hX dLs_takeBatch_3 (Nat.le_of_ble_eq_true rfl) rfl h (fun y3 h => ?_)
  exact zg_sub (zl_k (zl_d (zl_k (zl_k (zl_d zl_n))))) (zm_Ls_takeBatch_L4 hX hr hm F w a0 y1 y3 h)
def zf_Ls_takeSync (F : Nat) (w : zw_T) (a0 : Nat) (x1 : Int32) : Option (Int32 × zw_T) :=
  zf_at w 5 (some a0) fun a1 =>
  zf_at w 1 (zw_R w 1256 a1 0) fun a5 =>
  zf_bd (zf_Ai_hasWord F w a5 x1) fun v5 w5 =>
  if v5 = 0 then (
  zf_at w5 5 (some a0) fun a12 =>
  zf_at w5 1 (zw_R w5 1256 a12 0) fun a15 =>
  some ((zw_I w5 1001 a15 0), w5))
  else (
  zf_at w5 5 (some a0) fun a20 =>
  zf_at w5 7 (zw_R w5 1257 a20 0) fun a24 =>
  zf_at w5 7 (zw_R w5 1257 a20 0) fun a30 => zf_let (zw_sI w5 1389 a30 0 ((zw_I w5 1389 a24 0) + (32 : Int32))) fun w30 =>
  zf_at w30 5 (some a0) fun a34 =>
  zf_at w30 1 (zw_R w30 1256 a34 0) fun a38 =>
  zf_bd (zf_Ai_wordAt F w30 a38 x1) fun v38 w38 =>
  zf_bd (zf_WP_isSync F w38 v38) fun v41 w41 =>
  if v41 = 0 then (
  zf_at w41 5 (some a0) fun a54 =>
  zf_bv (zf_Ls_endMessage F w41 a54 (0 : Int32)) fun w54 =>
  zf_at w54 5 (some a0) fun a62 =>
  zf_bd (zf_Ls_hunt F w54 a62 (x1 + (32 : Int32))) fun v62 w62 =>
  some (v62, w62))
  else (
  some ((x1 + (32 : Int32)), w41)))
set_option maxHeartbeats 4000000 in
set_option maxRecDepth 100000 in
theorem zm_Ls_takeSync (l : Launch) (D : va_G) (G : zw_G) (A : Nat → Prop) (F : Nat) (w : zw_T) (a0 : Nat) (x1 : Int32) (r : Int32 × zw_T) (h : zf_Ls_takeSync F w a0 x1 = some r) : zc l yLs_takeSync wsLs_takeSync 3 88 128 0 D G A [.ref a0, .int x1] w (zr_i r) := by
  refine zc_of (ret := some .int) [some (va_rf (some a0)), some (.int x1)] (plainFor_of_name (by decide +kernel)) rfl (Nat.le_of_ble_eq_true rfl) rfl rfl (fun X hX hr hm => ?_)
  unfold zf_Ls_takeSync at h
  refine zg_aload_n (x := (some a0)) hX dLs_takeSync_0 rfl ?_
  refine zg_getR (ci := 4) (k := 0) hc_4 (by decide) (by decide) hin_4 zx_66 ft_4_0 hX dLs_takeSync_1 h (fun a1 h => ?_)
  refine zg_iload_n hX dLs_takeSync_4 rfl ?_
  obtain ⟨a5, e5, t5, h⟩ := zf_at_e h
  obtain ⟨v5, w5, q5, h⟩ := zf_bd_e h
  refine zg_callV_i (mcy := 0) (v := v5) (w1 := w5) (st := []) hc_0 (by decide) e5 t5 [.int x1] (fun l => zm_Ai_hasWord l D G A F w a5 x1 (v5, w5) q5) (zt_V zx_509 zx_510 zx_511 zx_3 zx_512) rfl hd_Ai_hasWord (by decide) (by decide) (by decide) (Nat.le_of_ble_eq_true rfl) rfl rfl hX dLs_takeSync_5 ?_
  refine zg_if_ne (tgt := 19) hX dLs_takeSync_8 rfl h (fun h => ?_) (fun h => ?_)
  · refine zg_aload_n (x := (some a0)) hX dLs_takeSync_11 rfl ?_
    refine zg_getR (ci := 4) (k := 0) hc_4 (by decide) (by decide) hin_4 zx_66 ft_4_0 hX dLs_takeSync_12 h (fun a12 h => ?_)
    refine zg_getI (ci := 0) (k := 1) hc_0 (by decide) (by decide) hin_0 zx_53 ft_0_1 hX dLs_takeSync_15 h (fun a15 h => ?_)
    cases h
    exact zg_iret hX hr (by decide) dLs_takeSync_18
  · refine zg_aload_n (x := (some a0)) hX dLs_takeSync_19 rfl ?_
    refine zg_getR (ci := 4) (k := 1) hc_4 (by decide) (by decide) hin_4 zx_67 ft_4_1 hX dLs_takeSync_20 h (fun a20 h => ?_)
    refine zg_dup hX dLs_takeSync_23 (zv_cat _) ?_
    refine zg_getI (ci := 6) (k := 5) hc_6 (by decide) (by decide) hin_6 zx_282 ft_6_5 hX dLs_takeSync_24 h (fun a24 h => ?_)
    refine zg_bipush hX dLs_takeSync_27 (32 : Int32) (by decide) ?_
    refine zg_iadd hX dLs_takeSync_29 ?_
    refine zg_putI (ci := 6) (k := 5) hc_6 (by decide) (by decide) hin_6 zx_282 ft_6_5 tyPg okPg nmPg rfl (vp_nar_int _) rfl hX dLs_takeSync_30 h (fun w30 h => ?_)
    refine zg_aload_n (x := (some a0)) hX dLs_takeSync_33 rfl ?_
    refine zg_getR (ci := 4) (k := 0) hc_4 (by decide) (by decide) hin_4 zx_66 ft_4_0 hX dLs_takeSync_34 h (fun a34 h => ?_)
    refine zg_iload_n hX dLs_takeSync_37 rfl ?_
    obtain ⟨a38, e38, t38, h⟩ := zf_at_e h
    obtain ⟨v38, w38, q38, h⟩ := zf_bd_e h
    refine zg_callV_i (mcy := 0) (v := v38) (w1 := w38) (st := []) hc_0 (by decide) e38 t38 [.int x1] (fun l => zm_Ai_wordAt l D G A F w30 a38 x1 (v38, w38) q38) (zt_V zx_521 zx_522 zx_523 zx_3 zx_524) rfl hd_Ai_wordAt (by decide) (by decide) (by decide) (Nat.le_of_ble_eq_true rfl) rfl rfl hX dLs_takeSync_38 ?_
    obtain ⟨v41, w41, q41, h⟩ := zf_bd_e h
    refine zg_callSN_i (mcy := 0) (v := v41) (w1 := w41) (st := []) [.int v38] (fun l => zm_WP_isSync l D G A F w38 v38 (v41, w41) q41) (zt_G zx_507) zn_6 zx_506 zx_1 rfl hd_WP_isSync (by decide) (by decide) (by decide) (Nat.le_of_ble_eq_true rfl) rfl rfl hX dLs_takeSync_41 ?_
    refine zg_if_eq (tgt := 52) hX dLs_takeSync_44 rfl h (fun h => ?_) (fun h => ?_)
    · refine zg_aload_n (x := (some a0)) hX dLs_takeSync_52 rfl ?_
      refine zg_iconst hX dLs_takeSync_53 (0 : Int32) (by decide) ?_
      obtain ⟨a54, e54, t54, h⟩ := zf_at_e h
      obtain ⟨w54, q54, h⟩ := zf_bv_e h
      refine zg_callV_v (mcy := 0) (w1 := w54) (st := []) hc_4 (by decide) e54 t54 [.int (0 : Int32)] (fun l => zm_Ls_endMessage l D G A F w41 a54 (0 : Int32) w54 q54) (zt_V zx_530 zx_532 zs_10 zx_4 zx_533) rfl hd_Ls_endMessage (by decide) (by decide) (by decide) (Nat.le_of_ble_eq_true rfl) rfl rfl hX dLs_takeSync_54 ?_
      refine zg_aload_n (x := (some a0)) hX dLs_takeSync_57 rfl ?_
      refine zg_iload_n hX dLs_takeSync_58 rfl ?_
      refine zg_bipush hX dLs_takeSync_59 (32 : Int32) (by decide) ?_
      refine zg_iadd hX dLs_takeSync_61 ?_
      obtain ⟨a62, e62, t62, h⟩ := zf_at_e h
      obtain ⟨v62, w62, q62, h⟩ := zf_bd_e h
      refine zg_callV_i (mcy := 0) (v := v62) (w1 := w62) (st := []) hc_4 (by decide) e62 t62 [.int (x1 + (32 : Int32))] (fun l => zm_Ls_hunt l D G A F w54 a62 (x1 + (32 : Int32)) (v62, w62) q62) (zt_V zx_500 zx_502 zs_7 zx_4 zx_503) rfl hd_Ls_hunt (by decide) (by decide) (by decide) (Nat.le_of_ble_eq_true rfl) rfl rfl hX dLs_takeSync_62 ?_
      cases h
      exact zg_iret hX hr (by decide) dLs_takeSync_65
    · refine zg_iload_n hX dLs_takeSync_47 rfl ?_
      refine zg_bipush hX dLs_takeSync_48 (32 : Int32) (by decide) ?_
      refine zg_iadd hX dLs_takeSync_50 ?_
      cases h
      exact zg_iret hX hr (by decide) dLs_takeSync_51
def zf_Ls_listen_j62 (F : Nat) (w : zw_T) (a0 : Nat) : Option (Int32 × zw_T) :=
  zf_at w 5 (some a0) fun a64 =>
  zf_bv (zf_Ls_endMessage F w a64 (0 : Int32)) fun w64 =>
  zf_at w64 5 (some a0) fun a68 =>
  some ((zw_I w64 1258 a68 0), w64)
def zf_Ls_listen_L25 (F : Nat) : Nat → zw_T → Nat → Int32 → Int32 → Option (Int32 × zw_T)
  | 0, _, _, _, _ => none
  | n + 1, w, a0, x4, x5 =>
  if (70 : Int32) ≤ x5 then (
  zf_Ls_listen_j62 F w a0)
  else (
  zf_at w 5 (some a0) fun a33 =>
  zf_at w 1 (zw_R w 1256 a33 0) fun a38 =>
  zf_bd (zf_Ai_hasWord F w a38 x4) fun v38 w38 =>
  if v38 = 0 then (
  zf_Ls_listen_j62 F w38 a0)
  else (
  zf_at w38 5 (some a0) fun a48 =>
  zf_bd (zf_Ls_takeBatch F w38 a48 x4) fun v48 w48 =>
  zf_at w48 5 (some a0) fun a51 =>
  zf_bd (zf_Ls_takeSync F w48 a51 v48) fun v51 w51 =>
  zf_let v51 fun y54 =>
  zf_let (x5 + (1 : Int32)) fun y56 =>
  zf_Ls_listen_L25 F n w51 a0 y54 y56))
def zf_Ls_listen (F : Nat) (w : zw_T) (a0 : Nat) (o1 : Option Nat) (o2 : Option Nat) (x3 : Int32) : Option (Int32 × zw_T) :=
  zf_at w 5 (some a0) fun a2 => zf_let (zw_sR w 1257 a2 0 o1) fun w2 =>
  zf_at w2 5 (some a0) fun a7 => zf_let (zw_sR w2 1256 a7 0 o2) fun w7 =>
  zf_at w7 5 (some a0) fun a12 => zf_let (zw_sI w7 1258 a12 0 (0 : Int32)) fun w12 =>
  zf_at w12 5 (some a0) fun a17 =>
  zf_bd (zf_Ls_hunt F w12 a17 x3) fun v17 w17 =>
  zf_let v17 fun y20 =>
  zf_let (0 : Int32) fun y23 =>
  zf_Ls_listen_L25 F F w17 a0 y20 y23
set_option maxHeartbeats 4000000 in
set_option maxRecDepth 100000 in
theorem zm_Ls_listen_j62 {X : zg_X} {D : va_G} {G : zw_G} {A : Nat → Prop} {F : Nat} {r : Int32 × zw_T} (hX : zg_ok X cLs_listen RLs 6 5 136 128 0 D G A) (hr : zg_rt X = some .int) (hm : zg_nm X = yLs_listen.name) (w : zw_T) (a0 : Nat) (h : zf_Ls_listen_j62 F w a0 = some r) : zg X D G A (zg_Q X D G A 128 0 (zr_i r)) 128 0 w 62 [some (va_rf (some a0)), none, none, none, none, none] [] := by
  unfold zf_Ls_listen_j62 at h
  refine zg_aload_n (x := (some a0)) hX dLs_listen_62 rfl ?_
  refine zg_iconst hX dLs_listen_63 (0 : Int32) (by decide) ?_
  obtain ⟨a64, e64, t64, h⟩ := zf_at_e h
  obtain ⟨w64, q64, h⟩ := zf_bv_e h
  refine zg_callV_v (mcy := 0) (w1 := w64) (st := []) hc_4 (by decide) e64 t64 [.int (0 : Int32)] (fun l => zm_Ls_endMessage l D G A F w a64 (0 : Int32) w64 q64) (zt_V zx_530 zx_532 zs_10 zx_4 zx_533) rfl hd_Ls_endMessage (by decide) (by decide) (by decide) (Nat.le_of_ble_eq_true rfl) rfl rfl hX dLs_listen_64 ?_
  refine zg_aload_n (x := (some a0)) hX dLs_listen_67 rfl ?_
  refine zg_getI (ci := 4) (k := 2) hc_4 (by decide) (by decide) hin_4 zx_68 ft_4_2 hX dLs_listen_68 h (fun a68 h => ?_)
  cases h
  exact zg_iret hX hr (by decide) dLs_listen_71
set_option maxHeartbeats 4000000 in
set_option maxRecDepth 100000 in
theorem zm_Ls_listen_L25 {X : zg_X} {D : va_G} {G : zw_G} {A : Nat → Prop} {F : Nat} {r : Int32 × zw_T} (hX : zg_ok X cLs_listen RLs 6 5 136 128 0 D G A) (hr : zg_rt X = some .int) (hm : zg_nm X = yLs_listen.name) : ∀ (n : Nat) (w : zw_T) (a0 : Nat) (x4 : Int32) (x5 : Int32), zf_Ls_listen_L25 F n w a0 x4 x5 = some r → zg X D G A (zg_Q X D G A 128 0 (zr_i r)) 128 0 w 25 [some (va_rf (some a0)), none, none, none, some (.int x4), some (.int x5)] [] := by
  intro n
  induction n with
  | zero =>
    intro w a0 x4 x5 h
    unfold zf_Ls_listen_L25 at h
    cases h
  | succ n ih =>
    intro w a0 x4 x5 h
    rw [zf_Ls_listen_L25] at h
    refine zg_iload hX dLs_listen_25 rfl ?_
    refine zg_bipush hX dLs_listen_27 (70 : Int32) (by decide) ?_
    refine zg_icmp_ge (tgt := 62) hX dLs_listen_29 rfl h (fun h => ?_) (fun h => ?_)
    · exact zg_sub (zl_k (zl_d (zl_d (zl_d (zl_d (zl_d zl_n)))))) (zm_Ls_listen_j62 hX hr hm w a0 h)
    · refine zg_aload_n (x := (some a0)) hX dLs_listen_32 rfl ?_
      refine zg_getR (ci := 4) (k := 0) hc_4 (by decide) (by decide) hin_4 zx_66 ft_4_0 hX dLs_listen_33 h (fun a33 h => ?_)
      refine zg_iload hX dLs_listen_36 rfl ?_
      obtain ⟨a38, e38, t38, h⟩ := zf_at_e h
      obtain ⟨v38, w38, q38, h⟩ := zf_bd_e h
      refine zg_callV_i (mcy := 0) (v := v38) (w1 := w38) (st := []) hc_0 (by decide) e38 t38 [.int x4] (fun l => zm_Ai_hasWord l D G A F w a38 x4 (v38, w38) q38) (zt_V zx_509 zx_510 zx_511 zx_3 zx_512) rfl hd_Ai_hasWord (by decide) (by decide) (by decide) (Nat.le_of_ble_eq_true rfl) rfl rfl hX dLs_listen_38 ?_
      refine zg_if_eq (tgt := 62) hX dLs_listen_41 rfl h (fun h => ?_) (fun h => ?_)
      · exact zg_sub (zl_k (zl_d (zl_d (zl_d (zl_d (zl_d zl_n)))))) (zm_Ls_listen_j62 hX hr hm w38 a0 h)
      · refine zg_aload_n (x := (some a0)) hX dLs_listen_44 rfl ?_
        refine zg_aload_n (x := (some a0)) hX dLs_listen_45 rfl ?_
        refine zg_iload hX dLs_listen_46 rfl ?_
        obtain ⟨a48, e48, t48, h⟩ := zf_at_e h
        obtain ⟨v48, w48, q48, h⟩ := zf_bd_e h
        refine zg_callV_i (mcy := 0) (v := v48) (w1 := w48) (st := [va_rf (some a0)]) hc_4 (by decide) e48 t48 [.int x4] (fun l => zm_Ls_takeBatch l D G A F w38 a48 x4 (v48, w48) q48) (zt_V zx_513 zx_515 zs_8 zx_4 zx_516) rfl hd_Ls_takeBatch (by decide) (by decide) (by decide) (Nat.le_of_ble_eq_true rfl) rfl rfl hX dLs_listen_48 ?_
        obtain ⟨a51, e51, t51, h⟩ := zf_at_e h
        obtain ⟨v51, w51, q51, h⟩ := zf_bd_e h
        refine zg_callV_i (mcy := 0) (v := v51) (w1 := w51) (st := []) hc_4 (by decide) e51 t51 [.int v48] (fun l => zm_Ls_takeSync l D G A F w48 a51 v48 (v51, w51) q51) (zt_V zx_579 zx_581 zs_15 zx_4 zx_582) rfl hd_Ls_takeSync (by decide) (by decide) (by decide) (Nat.le_of_ble_eq_true rfl) rfl rfl hX dLs_listen_51 ?_
        refine zg_istore hX dLs_listen_54 (Nat.le_of_ble_eq_true rfl) rfl h (fun y54 h => ?_)
        refine zg_iinc hX dLs_listen_56 (1 : Int32) rfl (by decide) (Nat.le_of_ble_eq_true rfl) rfl h (fun y56 h => ?_)
        refine zg_goto (tgt := 25) hX dLs_listen_59 rfl ?_
        exact zg_sub (zl_k (zl_d (zl_d (zl_d (zl_k (zl_k zl_n)))))) (ih w51 a0 y54 y56 h)
set_option maxHeartbeats 4000000 in
set_option maxRecDepth 100000 in
theorem zm_Ls_listen (l : Launch) (D : va_G) (G : zw_G) (A : Nat → Prop) (F : Nat) (w : zw_T) (a0 : Nat) (o1 : Option Nat) (o2 : Option Nat) (x3 : Int32) (r : Int32 × zw_T) (h : zf_Ls_listen F w a0 o1 o2 x3 = some r) : zc l yLs_listen wsLs_listen 5 136 128 0 D G A [.ref a0, va_rf o1, va_rf o2, .int x3] w (zr_i r) := by
  refine zc_of (ret := some .int) [some (va_rf (some a0)), some (va_rf o1), some (va_rf o2), some (.int x3), none, none] (plainFor_of_name (by decide +kernel)) rfl (by cases o1 <;> cases o2 <;> exact Nat.le_of_ble_eq_true rfl) (by cases o1 <;> cases o2 <;> rfl) rfl (fun X hX hr hm => ?_)
  unfold zf_Ls_listen at h
  refine zg_aload_n (x := (some a0)) hX dLs_listen_0 rfl ?_
  refine zg_aload_n (x := o1) hX dLs_listen_1 rfl ?_
  refine zg_putR (ci := 4) (k := 1) hc_4 (by decide) (by decide) hin_4 zx_67 ft_4_1 tyLs okLs nmLs rfl (zv_no _ _).1 (zv_no _ _).2 hX dLs_listen_2 h (fun w2 h => ?_)
  refine zg_aload_n (x := (some a0)) hX dLs_listen_5 rfl ?_
  refine zg_aload_n (x := o2) hX dLs_listen_6 rfl ?_
  refine zg_putR (ci := 4) (k := 0) hc_4 (by decide) (by decide) hin_4 zx_66 ft_4_0 tyLs okLs nmLs rfl (zv_no _ _).1 (zv_no _ _).2 hX dLs_listen_7 h (fun w7 h => ?_)
  refine zg_aload_n (x := (some a0)) hX dLs_listen_10 rfl ?_
  refine zg_iconst hX dLs_listen_11 (0 : Int32) (by decide) ?_
  refine zg_putI (ci := 4) (k := 2) hc_4 (by decide) (by decide) hin_4 zx_68 ft_4_2 tyLs okLs nmLs rfl (vp_nar_int _) rfl hX dLs_listen_12 h (fun w12 h => ?_)
  refine zg_aload_n (x := (some a0)) hX dLs_listen_15 rfl ?_
  refine zg_iload_n hX dLs_listen_16 rfl ?_
  obtain ⟨a17, e17, t17, h⟩ := zf_at_e h
  obtain ⟨v17, w17, q17, h⟩ := zf_bd_e h
  refine zg_callV_i (mcy := 0) (v := v17) (w1 := w17) (st := []) hc_4 (by decide) e17 t17 [.int x3] (fun l => zm_Ls_hunt l D G A F w12 a17 x3 (v17, w17) q17) (zt_V zx_500 zx_502 zs_7 zx_4 zx_503) rfl hd_Ls_hunt (by decide) (by decide) (by decide) (Nat.le_of_ble_eq_true rfl) rfl rfl hX dLs_listen_17 ?_
  refine zg_istore hX dLs_listen_20 (Nat.le_of_ble_eq_true rfl) rfl h (fun y20 h => ?_)
  refine zg_iconst hX dLs_listen_22 (0 : Int32) (by decide) ?_
  refine zg_istore hX dLs_listen_23 (Nat.le_of_ble_eq_true rfl) rfl h (fun y23 h => ?_)
  exact zg_sub (zl_k (zl_d (zl_d (zl_d (zl_k (zl_k zl_n)))))) (zm_Ls_listen_L25 hX hr hm F w17 a0 y20 y23 h)
def zf_WP_hear (F : Nat) (w : zw_T) (a0 : Nat) (x1 : Int32) (x2 : Int32) : Option (Int32 × zw_T) :=
  zf_at w 9 (some a0) fun a2 =>
  zf_bd (zf_WP_pagerAt F w a2 x1) fun v2 w2 =>
  zf_let v2 fun y5 =>
  if y5 = none then (
  some ((-1 : Int32), w2))
  else (
  zf_at w2 9 (some a0) fun a11 =>
  zf_at w2 1 (zw_R w2 1522 a11 0) fun a15 =>
  zf_bd (zf_Ai_hasBit F w2 a15 x2) fun v15 w15 =>
  if v15 = 0 then (
  some ((-1 : Int32), w15))
  else (
  zf_at w15 9 (some a0) fun a26 =>
  zf_at w15 9 (some a0) fun a31 =>
  zf_at w15 5 (zw_R w15 1523 a26 0) fun a35 =>
  zf_bd (zf_Ls_listen F w15 a35 y5 (zw_R w15 1522 a31 0) x2) fun v35 w35 =>
  some (v35, w35)))
set_option maxHeartbeats 4000000 in
set_option maxRecDepth 100000 in
theorem zm_WP_hear (l : Launch) (D : va_G) (G : zw_G) (A : Nat → Prop) (F : Nat) (w : zw_T) (a0 : Nat) (x1 : Int32) (x2 : Int32) (r : Int32 × zw_T) (h : zf_WP_hear F w a0 x1 x2 = some r) : zc l yWP_hear wsWP_hear 6 161 128 0 D G A [.ref a0, .int x1, .int x2] w (zr_i r) := by
  refine zc_of (ret := some .int) [some (va_rf (some a0)), some (.int x1), some (.int x2), none] (plainFor_of_name (by decide +kernel)) rfl (Nat.le_of_ble_eq_true rfl) rfl rfl (fun X hX hr hm => ?_)
  unfold zf_WP_hear at h
  refine zg_aload_n (x := (some a0)) hX dWP_hear_0 rfl ?_
  refine zg_iload_n hX dWP_hear_1 rfl ?_
  obtain ⟨a2, e2, t2, h⟩ := zf_at_e h
  obtain ⟨v2, w2, q2, h⟩ := zf_bd_e h
  refine zg_callV_r (mcy := 0) (v := v2) (w1 := w2) (st := []) hc_8 (by decide) e2 t2 [.int x1] (fun l => zm_WP_pagerAt l D G A F w a2 x1 (v2, w2) q2) (zt_V zx_316 zx_318 zs_1 zx_1 zx_319) rfl hd_WP_pagerAt (by decide) (by decide) (by decide) (Nat.le_of_ble_eq_true rfl) rfl rfl hX dWP_hear_2 ?_
  refine zg_astore_n hX dWP_hear_5 (Nat.le_of_ble_eq_true rfl) rfl h (fun y5 h => ?_)
  refine zg_aload_n (x := y5) hX dWP_hear_6 rfl ?_
  refine zg_ifnull (tgt := 21) hX dWP_hear_7 rfl h (fun h => ?_) (fun h => ?_)
  · refine zg_iconst hX dWP_hear_21 (-1 : Int32) (by decide) ?_
    refine zg_goto (tgt := 38) hX dWP_hear_22 rfl ?_
    cases h
    exact zg_iret hX hr (by decide) dWP_hear_38
  · refine zg_aload_n (x := (some a0)) hX dWP_hear_10 rfl ?_
    refine zg_getR (ci := 8) (k := 10) hc_8 (by decide) (by decide) hin_8 zx_101 ft_8_10 hX dWP_hear_11 h (fun a11 h => ?_)
    refine zg_iload_n hX dWP_hear_14 rfl ?_
    obtain ⟨a15, e15, t15, h⟩ := zf_at_e h
    obtain ⟨v15, w15, q15, h⟩ := zf_bd_e h
    refine zg_callV_i (mcy := 0) (v := v15) (w1 := w15) (st := []) hc_0 (by decide) e15 t15 [.int x2] (fun l => zm_Ai_hasBit l D G A F w2 a15 x2 (v15, w15) q15) (zt_V zx_476 zx_477 zx_478 zx_3 zx_479) rfl hd_Ai_hasBit (by decide) (by decide) (by decide) (Nat.le_of_ble_eq_true rfl) rfl rfl hX dWP_hear_15 ?_
    refine zg_if_ne (tgt := 25) hX dWP_hear_18 rfl h (fun h => ?_) (fun h => ?_)
    · refine zg_iconst hX dWP_hear_21 (-1 : Int32) (by decide) ?_
      refine zg_goto (tgt := 38) hX dWP_hear_22 rfl ?_
      cases h
      exact zg_iret hX hr (by decide) dWP_hear_38
    · refine zg_aload_n (x := (some a0)) hX dWP_hear_25 rfl ?_
      refine zg_getR (ci := 8) (k := 11) hc_8 (by decide) (by decide) hin_8 zx_102 ft_8_11 hX dWP_hear_26 h (fun a26 h => ?_)
      refine zg_aload_n (x := y5) hX dWP_hear_29 rfl ?_
      refine zg_aload_n (x := (some a0)) hX dWP_hear_30 rfl ?_
      refine zg_getR (ci := 8) (k := 10) hc_8 (by decide) (by decide) hin_8 zx_101 ft_8_10 hX dWP_hear_31 h (fun a31 h => ?_)
      refine zg_iload_n hX dWP_hear_34 rfl ?_
      obtain ⟨a35, e35, t35, h⟩ := zf_at_e h
      obtain ⟨v35, w35, q35, h⟩ := zf_bd_e h
      refine zg_callV_i (mcy := 0) (v := v35) (w1 := w35) (st := []) hc_4 (by decide) e35 t35 [va_rf y5, va_rf (zw_R w15 1522 a31 0), .int x2] (fun l => zm_Ls_listen l D G A F w15 a35 y5 (zw_R w15 1522 a31 0) x2 (v35, w35) q35) (zt_V zx_496 zx_497 zx_498 zx_4 zx_499) rfl hd_Ls_listen (by decide) (by decide) (by decide) (Nat.le_of_ble_eq_true rfl) rfl rfl hX dWP_hear_35 ?_
      cases h
      exact zg_iret hX hr (by decide) dWP_hear_38
def zf_WP_isAddressUsed_L2 (F : Nat) : Nat → zw_T → Nat → Int32 → Int32 → Option (Int32 × zw_T)
  | 0, _, _, _, _ => none
  | n + 1, w, a0, x1, x2 =>
  zf_at w 9 (some a0) fun a4 =>
  if (zw_I w 1513 a4 0) ≤ x2 then (
  zf_b (0 : Int32) (some ((0 : Int32), w)))
  else (
  zf_at w 9 (some a0) fun a11 =>
  zf_ix w 402 (zw_R w 1512 a11 0) x2 fun a15 j15 =>
  zf_at w 3 (zw_R w 402 a15 j15) fun a16 =>
  if (zw_I w 1129 a16 0) = x1 then (
  zf_b (1 : Int32) (some ((1 : Int32), w)))
  else (
  zf_let (x2 + (1 : Int32)) fun y25 =>
  zf_WP_isAddressUsed_L2 F n w a0 x1 y25))
def zf_WP_isAddressUsed (F : Nat) (w : zw_T) (a0 : Nat) (x1 : Int32) : Option (Int32 × zw_T) :=
  zf_let (0 : Int32) fun y1 =>
  zf_WP_isAddressUsed_L2 F F w a0 x1 y1
set_option maxHeartbeats 4000000 in
set_option maxRecDepth 100000 in
theorem zm_WP_isAddressUsed_L2 {X : zg_X} {D : va_G} {G : zw_G} {A : Nat → Prop} {F : Nat} {r : Int32 × zw_T} (hX : zg_ok X cWP_isAddressUsed RWP 3 0 0 128 0 D G A) (hr : zg_rt X = some .boolean) (hm : zg_nm X = yWP_isAddressUsed.name) : ∀ (n : Nat) (w : zw_T) (a0 : Nat) (x1 : Int32) (x2 : Int32), zf_WP_isAddressUsed_L2 F n w a0 x1 x2 = some r → zg X D G A (zg_Q X D G A 128 0 (zr_i r)) 128 0 w 2 [some (va_rf (some a0)), some (.int x1), some (.int x2)] [] := by
  intro n
  induction n with
  | zero =>
    intro w a0 x1 x2 h
    unfold zf_WP_isAddressUsed_L2 at h
    cases h
  | succ n ih =>
    intro w a0 x1 x2 h
    rw [zf_WP_isAddressUsed_L2] at h
    refine zg_iload_n hX dWP_isAddressUsed_2 rfl ?_
    refine zg_aload_n (x := (some a0)) hX dWP_isAddressUsed_3 rfl ?_
    refine zg_getI (ci := 8) (k := 1) hc_8 (by decide) (by decide) hin_8 zx_92 ft_8_1 hX dWP_isAddressUsed_4 h (fun a4 h => ?_)
    refine zg_icmp_ge (tgt := 31) hX dWP_isAddressUsed_7 rfl h (fun h => ?_) (fun h => ?_)
    · refine zg_iconst hX dWP_isAddressUsed_31 (0 : Int32) (by decide) ?_
      obtain ⟨hb32, h⟩ := zf_b_e h
      cases h
      exact zg_zret hX hr (zf_b_n hb32).1 (by decide) dWP_isAddressUsed_32
    · refine zg_aload_n (x := (some a0)) hX dWP_isAddressUsed_10 rfl ?_
      refine zg_getR (ci := 8) (k := 0) hc_8 (by decide) (by decide) hin_8 zx_91 ft_8_0 hX dWP_isAddressUsed_11 h (fun a11 h => ?_)
      refine zg_iload_n hX dWP_isAddressUsed_14 rfl ?_
      refine zg_aald (ci := 2) (t0 := 4) rfl hX dWP_isAddressUsed_15 h (fun a15 j15 h => ?_)
      refine zg_getI (ci := 2) (k := 1) hc_2 (by decide) (by decide) hin_2 zx_184 ft_2_1 hX dWP_isAddressUsed_16 h (fun a16 h => ?_)
      refine zg_iload_n hX dWP_isAddressUsed_19 rfl ?_
      refine zg_icmp_ne (tgt := 25) hX dWP_isAddressUsed_20 rfl h (fun h => ?_) (fun h => ?_)
      · refine zg_iconst hX dWP_isAddressUsed_23 (1 : Int32) (by decide) ?_
        obtain ⟨hb24, h⟩ := zf_b_e h
        cases h
        exact zg_zret hX hr (zf_b_n hb24).1 (by decide) dWP_isAddressUsed_24
      · refine zg_iinc hX dWP_isAddressUsed_25 (1 : Int32) rfl (by decide) (Nat.le_of_ble_eq_true rfl) rfl h (fun y25 h => ?_)
        refine zg_goto (tgt := 2) hX dWP_isAddressUsed_28 rfl ?_
        exact zg_sub (zl_k (zl_k (zl_k zl_n))) (ih w a0 x1 y25 h)
set_option maxHeartbeats 4000000 in
set_option maxRecDepth 100000 in
theorem zm_WP_isAddressUsed (l : Launch) (D : va_G) (G : zw_G) (A : Nat → Prop) (F : Nat) (w : zw_T) (a0 : Nat) (x1 : Int32) (r : Int32 × zw_T) (h : zf_WP_isAddressUsed F w a0 x1 = some r) : zc l yWP_isAddressUsed wsWP_isAddressUsed 0 0 128 0 D G A [.ref a0, .int x1] w (zr_i r) := by
  refine zc_of (ret := some .boolean) [some (va_rf (some a0)), some (.int x1), none] (plainFor_of_name (by decide +kernel)) rfl (Nat.le_of_ble_eq_true rfl) rfl rfl (fun X hX hr hm => ?_)
  unfold zf_WP_isAddressUsed at h
  refine zg_iconst hX dWP_isAddressUsed_0 (0 : Int32) (by decide) ?_
  refine zg_istore_n hX dWP_isAddressUsed_1 (Nat.le_of_ble_eq_true rfl) rfl h (fun y1 h => ?_)
  exact zg_sub (zl_k (zl_k (zl_k zl_n))) (zm_WP_isAddressUsed_L2 hX hr hm F w a0 x1 y1 h)
def zf_Id_init_j138 (F : Nat) (w : zw_T) (s0 : Int32) (s1 : Option Nat) : Option (zw_T) :=
  zf_at w 3 s1 fun a138 => zf_let (zw_sI w 1136 a138 0 s0) fun w138 =>
  some w138
def zf_Id_init_j121 (F : Nat) (w : zw_T) (a0 : Nat) (s0 : Int32) (s1 : Option Nat) : Option (zw_T) :=
  zf_at w 3 s1 fun a121 => zf_let (zw_sI w 1135 a121 0 s0) fun w121 =>
  zf_at w121 3 (some a0) fun a126 =>
  if (zw_I w121 1130 a126 0) = 0 then (
  zf_Id_init_j138 F w121 (12 : Int32) (some a0))
  else (
  zf_Id_init_j138 F w121 (0 : Int32) (some a0))
def zf_Id_init_j104 (F : Nat) (w : zw_T) (a0 : Nat) (s0 : Int32) (s1 : Option Nat) : Option (zw_T) :=
  zf_at w 3 s1 fun a104 => zf_let (zw_sI w 1134 a104 0 s0) fun w104 =>
  zf_at w104 3 (some a0) fun a109 =>
  if (zw_I w104 1130 a109 0) = 0 then (
  zf_Id_init_j121 F w104 a0 (4 : Int32) (some a0))
  else (
  zf_Id_init_j121 F w104 a0 (7 : Int32) (some a0))
def zf_Id_init_j86 (F : Nat) (w : zw_T) (a0 : Nat) (s0 : Int32) (s1 : Option Nat) : Option (zw_T) :=
  zf_at w 3 s1 fun a86 => zf_let (zw_sI w 1133 a86 0 s0) fun w86 =>
  zf_at w86 3 (some a0) fun a91 =>
  if (zw_I w86 1130 a91 0) = 0 then (
  zf_Id_init_j104 F w86 a0 (11 : Int32) (some a0))
  else (
  zf_Id_init_j104 F w86 a0 (126 : Int32) (some a0))
def zf_Id_init_j65 (F : Nat) (w : zw_T) (a0 : Nat) (s0 : Int32) (s1 : Int32) (s2 : Option Nat) : Option (zw_T) :=
  zf_bd (zf_WP_codewordOf F w (s1 + s0)) fun v66 w66 =>
  zf_at w66 3 s2 fun a69 => zf_let (zw_sI w66 1132 a69 0 v66) fun w69 =>
  zf_at w69 3 (some a0) fun a74 =>
  if (zw_I w69 1130 a74 0) = 0 then (
  zf_Id_init_j86 F w69 a0 (0 : Int32) (some a0))
  else (
  zf_Id_init_j86 F w69 a0 (32 : Int32) (some a0))
def zf_Id_init_j35 (F : Nat) (w : zw_T) (a0 : Nat) (x2 : Int32) (s0 : Int32) (s1 : Option Nat) : Option (zw_T) :=
  zf_b s0 (
  zf_at w 3 s1 fun a35 => zf_let (zw_sI w 1130 a35 0 s0) fun w35 =>
  zf_at w35 3 (some a0) fun a43 => zf_let (zw_sI w35 1131 a43 0 (zi_rem x2 (8 : Int32))) fun w43 =>
  zf_at w43 3 (some a0) fun a54 =>
  if (zw_I w43 1130 a54 0) = 0 then (
  zf_Id_init_j65 F w43 a0 (0 : Int32) ((x2 / (8 : Int32)) * (4 : Int32)) (some a0))
  else (
  zf_Id_init_j65 F w43 a0 (3 : Int32) ((x2 / (8 : Int32)) * (4 : Int32)) (some a0)))
def zf_Id_init (F : Nat) (w : zw_T) (a0 : Nat) (x1 : Int32) (x2 : Int32) (x3 : Int32) : Option (zw_T) :=
  zf_at w 3 (some a0) fun a6 => zf_let (zw_sI w 1137 a6 0 (0 : Int32)) fun w6 =>
  zf_at w6 3 (some a0) fun a11 => zf_let (zw_sI w6 1138 a11 0 (0 : Int32)) fun w11 =>
  zf_at w11 3 (some a0) fun a16 => zf_let (zw_sI w11 1128 a16 0 x1) fun w16 =>
  zf_at w16 3 (some a0) fun a21 => zf_let (zw_sI w16 1129 a21 0 x2) fun w21 =>
  if x3 = (1 : Int32) then (
  zf_Id_init_j35 F w21 a0 x2 (1 : Int32) (some a0))
  else (
  zf_Id_init_j35 F w21 a0 x2 (0 : Int32) (some a0))
set_option maxHeartbeats 4000000 in
set_option maxRecDepth 100000 in
theorem zm_Id_init_j138 {X : zg_X} {D : va_G} {G : zw_G} {A : Nat → Prop} {F : Nat} {r : zw_T} (hX : zg_ok X cId_init RId 4 2 44 128 0 D G A) (hr : zg_rt X = none) (hm : zg_nm X = yId_init.name) (w : zw_T) (s0 : Int32) (s1 : Option Nat) (h : zf_Id_init_j138 F w s0 s1 = some r) : zg X D G A (zg_Q X D G A 128 0 (zr_v r)) 128 0 w 138 [none, none, none, none] [.int s0, va_rf s1] := by
  unfold zf_Id_init_j138 at h
  refine zg_pfiI (ci := 2) (k := 8) hc_2 (by decide) (by decide) hin_2 zx_199 ft_2_8 tyId okId nmId rfl hm rfl (vp_nar_int _) rfl hX dId_init_138 h (fun w138 h => ?_)
  cases h
  exact zg_vret hX hr (by decide) dId_init_141
set_option maxHeartbeats 4000000 in
set_option maxRecDepth 100000 in
theorem zm_Id_init_j121 {X : zg_X} {D : va_G} {G : zw_G} {A : Nat → Prop} {F : Nat} {r : zw_T} (hX : zg_ok X cId_init RId 4 2 44 128 0 D G A) (hr : zg_rt X = none) (hm : zg_nm X = yId_init.name) (w : zw_T) (a0 : Nat) (s0 : Int32) (s1 : Option Nat) (h : zf_Id_init_j121 F w a0 s0 s1 = some r) : zg X D G A (zg_Q X D G A 128 0 (zr_v r)) 128 0 w 121 [some (va_rf (some a0)), none, none, none] [.int s0, va_rf s1] := by
  unfold zf_Id_init_j121 at h
  refine zg_pfiI (ci := 2) (k := 7) hc_2 (by decide) (by decide) hin_2 zx_196 ft_2_7 tyId okId nmId rfl hm rfl (vp_nar_int _) rfl hX dId_init_121 h (fun w121 h => ?_)
  refine zg_aload_n (x := (some a0)) hX dId_init_124 rfl ?_
  refine zg_aload_n (x := (some a0)) hX dId_init_125 rfl ?_
  refine zg_getI (ci := 2) (k := 2) hc_2 (by decide) (by decide) hin_2 zx_185 ft_2_2 hX dId_init_126 h (fun a126 h => ?_)
  refine zg_if_eq (tgt := 136) hX dId_init_129 rfl h (fun h => ?_) (fun h => ?_)
  · refine zg_bipush hX dId_init_136 (12 : Int32) (by decide) ?_
    exact zg_sub (zl_d (zl_d (zl_d (zl_d zl_n)))) (zm_Id_init_j138 hX hr hm w121 (12 : Int32) (some a0) h)
  · refine zg_iconst hX dId_init_132 (0 : Int32) (by decide) ?_
    refine zg_goto (tgt := 138) hX dId_init_133 rfl ?_
    exact zg_sub (zl_d (zl_d (zl_d (zl_d zl_n)))) (zm_Id_init_j138 hX hr hm w121 (0 : Int32) (some a0) h)
set_option maxHeartbeats 4000000 in
set_option maxRecDepth 100000 in
theorem zm_Id_init_j104 {X : zg_X} {D : va_G} {G : zw_G} {A : Nat → Prop} {F : Nat} {r : zw_T} (hX : zg_ok X cId_init RId 4 2 44 128 0 D G A) (hr : zg_rt X = none) (hm : zg_nm X = yId_init.name) (w : zw_T) (a0 : Nat) (s0 : Int32) (s1 : Option Nat) (h : zf_Id_init_j104 F w a0 s0 s1 = some r) : zg X D G A (zg_Q X D G A 128 0 (zr_v r)) 128 0 w 104 [some (va_rf (some a0)), none, none, none] [.int s0, va_rf s1] := by
  unfold zf_Id_init_j104 at h
  refine zg_pfiI (ci := 2) (k := 6) hc_2 (by decide) (by decide) hin_2 zx_194 ft_2_6 tyId okId nmId rfl hm rfl (vp_nar_int _) rfl hX dId_init_104 h (fun w104 h => ?_)
  refine zg_aload_n (x := (some a0)) hX dId_init_107 rfl ?_
  refine zg_aload_n (x := (some a0)) hX dId_init_108 rfl ?_
  refine zg_getI (ci := 2) (k := 2) hc_2 (by decide) (by decide) hin_2 zx_185 ft_2_2 hX dId_init_109 h (fun a109 h => ?_)
  refine zg_if_eq (tgt := 120) hX dId_init_112 rfl h (fun h => ?_) (fun h => ?_)
  · refine zg_iconst hX dId_init_120 (4 : Int32) (by decide) ?_
    exact zg_sub (zl_k (zl_d (zl_d (zl_d zl_n)))) (zm_Id_init_j121 hX hr hm w104 a0 (4 : Int32) (some a0) h)
  · refine zg_bipush hX dId_init_115 (7 : Int32) (by decide) ?_
    refine zg_goto (tgt := 121) hX dId_init_117 rfl ?_
    exact zg_sub (zl_k (zl_d (zl_d (zl_d zl_n)))) (zm_Id_init_j121 hX hr hm w104 a0 (7 : Int32) (some a0) h)
set_option maxHeartbeats 4000000 in
set_option maxRecDepth 100000 in
theorem zm_Id_init_j86 {X : zg_X} {D : va_G} {G : zw_G} {A : Nat → Prop} {F : Nat} {r : zw_T} (hX : zg_ok X cId_init RId 4 2 44 128 0 D G A) (hr : zg_rt X = none) (hm : zg_nm X = yId_init.name) (w : zw_T) (a0 : Nat) (s0 : Int32) (s1 : Option Nat) (h : zf_Id_init_j86 F w a0 s0 s1 = some r) : zg X D G A (zg_Q X D G A 128 0 (zr_v r)) 128 0 w 86 [some (va_rf (some a0)), none, none, none] [.int s0, va_rf s1] := by
  unfold zf_Id_init_j86 at h
  refine zg_pfiI (ci := 2) (k := 5) hc_2 (by decide) (by decide) hin_2 zx_192 ft_2_5 tyId okId nmId rfl hm rfl (vp_nar_int _) rfl hX dId_init_86 h (fun w86 h => ?_)
  refine zg_aload_n (x := (some a0)) hX dId_init_89 rfl ?_
  refine zg_aload_n (x := (some a0)) hX dId_init_90 rfl ?_
  refine zg_getI (ci := 2) (k := 2) hc_2 (by decide) (by decide) hin_2 zx_185 ft_2_2 hX dId_init_91 h (fun a91 h => ?_)
  refine zg_if_eq (tgt := 102) hX dId_init_94 rfl h (fun h => ?_) (fun h => ?_)
  · refine zg_bipush hX dId_init_102 (11 : Int32) (by decide) ?_
    exact zg_sub (zl_k (zl_d (zl_d (zl_d zl_n)))) (zm_Id_init_j104 hX hr hm w86 a0 (11 : Int32) (some a0) h)
  · refine zg_bipush hX dId_init_97 (126 : Int32) (by decide) ?_
    refine zg_goto (tgt := 104) hX dId_init_99 rfl ?_
    exact zg_sub (zl_k (zl_d (zl_d (zl_d zl_n)))) (zm_Id_init_j104 hX hr hm w86 a0 (126 : Int32) (some a0) h)
set_option maxHeartbeats 4000000 in
set_option maxRecDepth 100000 in
theorem zm_Id_init_j65 {X : zg_X} {D : va_G} {G : zw_G} {A : Nat → Prop} {F : Nat} {r : zw_T} (hX : zg_ok X cId_init RId 4 2 44 128 0 D G A) (hr : zg_rt X = none) (hm : zg_nm X = yId_init.name) (w : zw_T) (a0 : Nat) (s0 : Int32) (s1 : Int32) (s2 : Option Nat) (h : zf_Id_init_j65 F w a0 s0 s1 s2 = some r) : zg X D G A (zg_Q X D G A 128 0 (zr_v r)) 128 0 w 65 [some (va_rf (some a0)), none, none, none] [.int s0, .int s1, va_rf s2] := by
  unfold zf_Id_init_j65 at h
  refine zg_iadd hX dId_init_65 ?_
  obtain ⟨v66, w66, q66, h⟩ := zf_bd_e h
  refine zg_callSN_i (mcy := 0) (v := v66) (w1 := w66) (st := [va_rf s2]) [.int (s1 + s0)] (fun l => zm_WP_codewordOf l D G A F w (s1 + s0) (v66, w66) q66) (zt_G zx_135) zn_3 zx_134 zx_1 rfl hd_WP_codewordOf (by decide) (by decide) (by decide) (Nat.le_trans (zv_s (zv_cat _) zv_s0) (by decide)) rfl rfl hX dId_init_66 ?_
  refine zg_pfiI (ci := 2) (k := 4) hc_2 (by decide) (by decide) hin_2 zx_189 ft_2_4 tyId okId nmId rfl hm rfl (vp_nar_int _) rfl hX dId_init_69 h (fun w69 h => ?_)
  refine zg_aload_n (x := (some a0)) hX dId_init_72 rfl ?_
  refine zg_aload_n (x := (some a0)) hX dId_init_73 rfl ?_
  refine zg_getI (ci := 2) (k := 2) hc_2 (by decide) (by decide) hin_2 zx_185 ft_2_2 hX dId_init_74 h (fun a74 h => ?_)
  refine zg_if_eq (tgt := 85) hX dId_init_77 rfl h (fun h => ?_) (fun h => ?_)
  · refine zg_iconst hX dId_init_85 (0 : Int32) (by decide) ?_
    exact zg_sub (zl_k (zl_d (zl_d (zl_d zl_n)))) (zm_Id_init_j86 hX hr hm w69 a0 (0 : Int32) (some a0) h)
  · refine zg_bipush hX dId_init_80 (32 : Int32) (by decide) ?_
    refine zg_goto (tgt := 86) hX dId_init_82 rfl ?_
    exact zg_sub (zl_k (zl_d (zl_d (zl_d zl_n)))) (zm_Id_init_j86 hX hr hm w69 a0 (32 : Int32) (some a0) h)
set_option maxHeartbeats 4000000 in
set_option maxRecDepth 100000 in
theorem zm_Id_init_j35 {X : zg_X} {D : va_G} {G : zw_G} {A : Nat → Prop} {F : Nat} {r : zw_T} (hX : zg_ok X cId_init RId 4 2 44 128 0 D G A) (hr : zg_rt X = none) (hm : zg_nm X = yId_init.name) (w : zw_T) (a0 : Nat) (x2 : Int32) (s0 : Int32) (s1 : Option Nat) (h : zf_Id_init_j35 F w a0 x2 s0 s1 = some r) : zg X D G A (zg_Q X D G A 128 0 (zr_v r)) 128 0 w 35 [some (va_rf (some a0)), none, some (.int x2), none] [.int s0, va_rf s1] := by
  unfold zf_Id_init_j35 at h
  obtain ⟨hb35, h⟩ := zf_b_e h
  refine zg_pfiI (ci := 2) (k := 2) hc_2 (by decide) (by decide) hin_2 zx_185 ft_2_2 tyId okId nmId rfl hm rfl (zf_b_n hb35).1 (zf_b_n hb35).2 hX dId_init_35 h (fun w35 h => ?_)
  refine zg_aload_n (x := (some a0)) hX dId_init_38 rfl ?_
  refine zg_iload_n hX dId_init_39 rfl ?_
  refine zg_bipush hX dId_init_40 (8 : Int32) (by decide) ?_
  refine zg_irem hX dId_init_42 (by decide) ?_
  refine zg_pfiI (ci := 2) (k := 3) hc_2 (by decide) (by decide) hin_2 zx_186 ft_2_3 tyId okId nmId rfl hm rfl (vp_nar_int _) rfl hX dId_init_43 h (fun w43 h => ?_)
  refine zg_aload_n (x := (some a0)) hX dId_init_46 rfl ?_
  refine zg_iload_n hX dId_init_47 rfl ?_
  refine zg_bipush hX dId_init_48 (8 : Int32) (by decide) ?_
  refine zg_idiv hX dId_init_50 (by decide) ?_
  refine zg_iconst hX dId_init_51 (4 : Int32) (by decide) ?_
  refine zg_imul hX dId_init_52 ?_
  refine zg_aload_n (x := (some a0)) hX dId_init_53 rfl ?_
  refine zg_getI (ci := 2) (k := 2) hc_2 (by decide) (by decide) hin_2 zx_185 ft_2_2 hX dId_init_54 h (fun a54 h => ?_)
  refine zg_if_eq (tgt := 64) hX dId_init_57 rfl h (fun h => ?_) (fun h => ?_)
  · refine zg_iconst hX dId_init_64 (0 : Int32) (by decide) ?_
    exact zg_sub (zl_k (zl_d (zl_d (zl_d zl_n)))) (zm_Id_init_j65 hX hr hm w43 a0 (0 : Int32) ((x2 / (8 : Int32)) * (4 : Int32)) (some a0) h)
  · refine zg_iconst hX dId_init_60 (3 : Int32) (by decide) ?_
    refine zg_goto (tgt := 65) hX dId_init_61 rfl ?_
    exact zg_sub (zl_k (zl_d (zl_d (zl_d zl_n)))) (zm_Id_init_j65 hX hr hm w43 a0 (3 : Int32) ((x2 / (8 : Int32)) * (4 : Int32)) (some a0) h)
set_option maxHeartbeats 4000000 in
set_option maxRecDepth 100000 in
theorem zm_Id_init (l : Launch) (D : va_G) (G : zw_G) (A : Nat → Prop) (F : Nat) (w : zw_T) (a0 : Nat) (x1 : Int32) (x2 : Int32) (x3 : Int32) (r : zw_T) (h : zf_Id_init F w a0 x1 x2 x3 = some r) : zc l yId_init wsId_init 2 44 128 0 D G A [.ref a0, .int x1, .int x2, .int x3] w (zr_v r) := by
  refine zc_of (ret := none) [some (va_rf (some a0)), some (.int x1), some (.int x2), some (.int x3)] (plainFor_of_name (by decide +kernel)) rfl (Nat.le_of_ble_eq_true rfl) rfl rfl (fun X hX hr hm => ?_)
  unfold zf_Id_init at h
  refine zg_aload_n (x := (some a0)) hX dId_init_0 rfl ?_
  refine zg_oinit zx_178 zx_22 zx_23 (by decide) (by decide) rfl hX dId_init_1 ?_
  refine zg_aload_n (x := (some a0)) hX dId_init_4 rfl ?_
  refine zg_iconst hX dId_init_5 (0 : Int32) (by decide) ?_
  refine zg_putI (ci := 2) (k := 9) hc_2 (by decide) (by decide) hin_2 zx_202 ft_2_9 tyId okId nmId rfl (vp_nar_int _) rfl hX dId_init_6 h (fun w6 h => ?_)
  refine zg_aload_n (x := (some a0)) hX dId_init_9 rfl ?_
  refine zg_iconst hX dId_init_10 (0 : Int32) (by decide) ?_
  refine zg_putI (ci := 2) (k := 10) hc_2 (by decide) (by decide) hin_2 zx_204 ft_2_10 tyId okId nmId rfl (vp_nar_int _) rfl hX dId_init_11 h (fun w11 h => ?_)
  refine zg_aload_n (x := (some a0)) hX dId_init_14 rfl ?_
  refine zg_iload_n hX dId_init_15 rfl ?_
  refine zg_pfiI (ci := 2) (k := 0) hc_2 (by decide) (by decide) hin_2 zx_180 ft_2_0 tyId okId nmId rfl hm rfl (vp_nar_int _) rfl hX dId_init_16 h (fun w16 h => ?_)
  refine zg_aload_n (x := (some a0)) hX dId_init_19 rfl ?_
  refine zg_iload_n hX dId_init_20 rfl ?_
  refine zg_pfiI (ci := 2) (k := 1) hc_2 (by decide) (by decide) hin_2 zx_183 ft_2_1 tyId okId nmId rfl hm rfl (vp_nar_int _) rfl hX dId_init_21 h (fun w21 h => ?_)
  refine zg_aload_n (x := (some a0)) hX dId_init_24 rfl ?_
  refine zg_iload_n hX dId_init_25 rfl ?_
  refine zg_iconst hX dId_init_26 (1 : Int32) (by decide) ?_
  refine zg_icmp_ne (tgt := 34) hX dId_init_27 rfl h (fun h => ?_) (fun h => ?_)
  · refine zg_iconst hX dId_init_30 (1 : Int32) (by decide) ?_
    refine zg_goto (tgt := 35) hX dId_init_31 rfl ?_
    exact zg_sub (zl_k (zl_d (zl_k (zl_d zl_n)))) (zm_Id_init_j35 hX hr hm w21 a0 x2 (1 : Int32) (some a0) h)
  · refine zg_iconst hX dId_init_34 (0 : Int32) (by decide) ?_
    exact zg_sub (zl_k (zl_d (zl_k (zl_d zl_n)))) (zm_Id_init_j35 hX hr hm w21 a0 x2 (0 : Int32) (some a0) h)
def zf_WP_identity_j21 (F : Nat) (w : zw_T) (a0 : Nat) (x1 : Int32) (x2 : Int32) : Option (Int32 × zw_T) :=
  if (x1 / (8 : Int32)) = (250958 : Int32) then (
  some ((-1 : Int32), w))
  else (
  zf_at w 9 (some a0) fun a31 =>
  if (12 : Int32) ≤ (zw_I w 1513 a31 0) then (
  some ((-1 : Int32), w))
  else (
  zf_at w 9 (some a0) fun a41 =>
  zf_bd (zf_WP_isAddressUsed F w a41 x1) fun v41 w41 =>
  if v41 = 0 then (
  zf_at w41 9 (some a0) fun a50 =>
  zf_at w41 9 (some a0) fun a54 =>
  zf_let (zw_new w41 3 0) fun w57 =>
  zf_at w57 9 (some a0) fun a62 =>
  zf_bv (zf_Id_init F w57 (zw_n w41) (zw_I w57 1513 a62 0) x1 x2) fun w67 =>
  zf_at w67 3 (some (zw_n w41)) fun b70 => zf_ix w67 402 (zw_R w41 1512 a50 0) (zw_I w41 1513 a54 0) fun a70 j70 => zf_let (zw_sR w67 402 a70 j70 (some b70)) fun w70 =>
  zf_at w70 9 (some a0) fun a73 =>
  zf_at w70 9 (some a0) fun a78 => zf_let (zw_sI w70 1513 a78 0 ((zw_I w70 1513 a73 0) + (1 : Int32))) fun w78 =>
  zf_at w78 9 (some a0) fun a82 =>
  some (((zw_I w78 1513 a82 0) - (1 : Int32)), w78))
  else (
  some ((-1 : Int32), w41))))
def zf_WP_identity (F : Nat) (w : zw_T) (a0 : Nat) (x1 : Int32) (x2 : Int32) : Option (Int32 × zw_T) :=
  if x1 < 0 then (
  some ((-1 : Int32), w))
  else (
  if (2097152 : Int32) ≤ x1 then (
  some ((-1 : Int32), w))
  else (
  if x2 = 0 then (
  zf_WP_identity_j21 F w a0 x1 x2)
  else (
  if x2 = (1 : Int32) then (
  zf_WP_identity_j21 F w a0 x1 x2)
  else (
  some ((-1 : Int32), w)))))
set_option maxHeartbeats 4000000 in
set_option maxRecDepth 100000 in
theorem zm_WP_identity_j21 {X : zg_X} {D : va_G} {G : zw_G} {A : Nat → Prop} {F : Nat} {r : Int32 × zw_T} (hX : zg_ok X cWP_identity RWP 3 3 67 128 1 D G A) (hr : zg_rt X = some .int) (hm : zg_nm X = yWP_identity.name) (w : zw_T) (a0 : Nat) (x1 : Int32) (x2 : Int32) (h : zf_WP_identity_j21 F w a0 x1 x2 = some r) : zg X D G A (zg_Q X D G A 128 1 (zr_i r)) 128 0 w 21 [some (va_rf (some a0)), some (.int x1), some (.int x2)] [] := by
  unfold zf_WP_identity_j21 at h
  refine zg_iload_n hX dWP_identity_21 rfl ?_
  refine zg_bipush hX dWP_identity_22 (8 : Int32) (by decide) ?_
  refine zg_idiv hX dWP_identity_24 (by decide) ?_
  refine zg_ldc hX dWP_identity_25 (250958 : Int32) zx_169 ?_
  refine zg_icmp_eq (tgt := 47) hX dWP_identity_27 rfl h (fun h => ?_) (fun h => ?_)
  · refine zg_iconst hX dWP_identity_47 (-1 : Int32) (by decide) ?_
    cases h
    exact zg_iret hX hr (by decide) dWP_identity_48
  · refine zg_aload_n (x := (some a0)) hX dWP_identity_30 rfl ?_
    refine zg_getI (ci := 8) (k := 1) hc_8 (by decide) (by decide) hin_8 zx_92 ft_8_1 hX dWP_identity_31 h (fun a31 h => ?_)
    refine zg_bipush hX dWP_identity_34 (12 : Int32) (by decide) ?_
    refine zg_icmp_ge (tgt := 47) hX dWP_identity_36 rfl h (fun h => ?_) (fun h => ?_)
    · refine zg_iconst hX dWP_identity_47 (-1 : Int32) (by decide) ?_
      cases h
      exact zg_iret hX hr (by decide) dWP_identity_48
    · refine zg_aload_n (x := (some a0)) hX dWP_identity_39 rfl ?_
      refine zg_iload_n hX dWP_identity_40 rfl ?_
      obtain ⟨a41, e41, t41, h⟩ := zf_at_e h
      obtain ⟨v41, w41, q41, h⟩ := zf_bd_e h
      refine zg_callV_i (mcy := 0) (v := v41) (w1 := w41) (st := []) hc_8 (by decide) e41 t41 [.int x1] (fun l => zm_WP_isAddressUsed l D G A F w a41 x1 (v41, w41) q41) (zt_V zx_170 zx_172 zs_0 zx_1 zx_173) rfl hd_WP_isAddressUsed (by decide) (by decide) (by decide) (Nat.le_of_ble_eq_true rfl) rfl rfl hX dWP_identity_41 ?_
      refine zg_if_eq (tgt := 49) hX dWP_identity_44 rfl h (fun h => ?_) (fun h => ?_)
      · refine zg_aload_n (x := (some a0)) hX dWP_identity_49 rfl ?_
        refine zg_getR (ci := 8) (k := 0) hc_8 (by decide) (by decide) hin_8 zx_91 ft_8_0 hX dWP_identity_50 h (fun a50 h => ?_)
        refine zg_aload_n (x := (some a0)) hX dWP_identity_53 rfl ?_
        refine zg_getI (ci := 8) (k := 1) hc_8 (by decide) (by decide) hin_8 zx_92 ft_8_1 hX dWP_identity_54 h (fun a54 h => ?_)
        refine zg_new (ci := 2) hc_2 (by decide) hin_2 tyId okId df_2 zx_24 zx_174 zx_8 (by decide) (by decide) hX dWP_identity_57 h (fun w57 h => ?_)
        refine zg_dup hX dWP_identity_60 rfl ?_
        refine zg_aload_n (x := (some a0)) hX dWP_identity_61 rfl ?_
        refine zg_getI (ci := 8) (k := 1) hc_8 (by decide) (by decide) hin_8 zx_92 ft_8_1 hX dWP_identity_62 h (fun a62 h => ?_)
        refine zg_iload_n hX dWP_identity_65 rfl ?_
        refine zg_iload_n hX dWP_identity_66 rfl ?_
        obtain ⟨w67, q67, h⟩ := zf_bv_e h
        refine zg_callI_v (mcy := 0) (w1 := w67) (st := [va_rf (some (zw_n w41)), .int (zw_I w41 1513 a54 0), va_rf (zw_R w41 1512 a50 0)]) [.int (zw_I w57 1513 a62 0), .int x1, .int x2] (fun l => zm_Id_init l D G A F w57 (zw_n w41) (zw_I w57 1513 a62 0) x1 x2 w67 q67) rfl rfl (zt_G zx_177) zx_175 zx_8 zx_176 rfl hd_Id_init (by decide) (by decide) (by decide) (Nat.le_trans (zv_s (zv_cat _) (zv_s rfl (zv_s (zv_cat _) zv_s0))) (by decide)) rfl rfl hX dWP_identity_67 ?_
        refine zg_aast (ci := 2) (kd := 402) hc_2 (by decide) rfl (t0 := 4) rfl rfl hX dWP_identity_70 h (fun w70 h => ?_)
        refine zg_aload_n (x := (some a0)) hX dWP_identity_71 rfl ?_
        refine zg_dup hX dWP_identity_72 rfl ?_
        refine zg_getI (ci := 8) (k := 1) hc_8 (by decide) (by decide) hin_8 zx_92 ft_8_1 hX dWP_identity_73 h (fun a73 h => ?_)
        refine zg_iconst hX dWP_identity_76 (1 : Int32) (by decide) ?_
        refine zg_iadd hX dWP_identity_77 ?_
        refine zg_putI (ci := 8) (k := 1) hc_8 (by decide) (by decide) hin_8 zx_92 ft_8_1 tyWP okWP nmWP rfl (vp_nar_int _) rfl hX dWP_identity_78 h (fun w78 h => ?_)
        refine zg_aload_n (x := (some a0)) hX dWP_identity_81 rfl ?_
        refine zg_getI (ci := 8) (k := 1) hc_8 (by decide) (by decide) hin_8 zx_92 ft_8_1 hX dWP_identity_82 h (fun a82 h => ?_)
        refine zg_iconst hX dWP_identity_85 (1 : Int32) (by decide) ?_
        refine zg_isub hX dWP_identity_86 ?_
        cases h
        exact zg_iret hX hr (by decide) dWP_identity_87
      · refine zg_iconst hX dWP_identity_47 (-1 : Int32) (by decide) ?_
        cases h
        exact zg_iret hX hr (by decide) dWP_identity_48
set_option maxHeartbeats 4000000 in
set_option maxRecDepth 100000 in
theorem zm_WP_identity (l : Launch) (D : va_G) (G : zw_G) (A : Nat → Prop) (F : Nat) (w : zw_T) (a0 : Nat) (x1 : Int32) (x2 : Int32) (r : Int32 × zw_T) (h : zf_WP_identity F w a0 x1 x2 = some r) : zc l yWP_identity wsWP_identity 3 67 128 1 D G A [.ref a0, .int x1, .int x2] w (zr_i r) := by
  refine zc_of (ret := some .int) [some (va_rf (some a0)), some (.int x1), some (.int x2)] (plainFor_of_name (by decide +kernel)) rfl (Nat.le_of_ble_eq_true rfl) rfl rfl (fun X hX hr hm => ?_)
  unfold zf_WP_identity at h
  refine zg_iload_n hX dWP_identity_0 rfl ?_
  refine zg_if_lt (tgt := 19) hX dWP_identity_1 rfl h (fun h => ?_) (fun h => ?_)
  · refine zg_iconst hX dWP_identity_19 (-1 : Int32) (by decide) ?_
    cases h
    exact zg_iret hX hr (by decide) dWP_identity_20
  · refine zg_iload_n hX dWP_identity_4 rfl ?_
    refine zg_ldc hX dWP_identity_5 (2097152 : Int32) zx_132 ?_
    refine zg_icmp_ge (tgt := 19) hX dWP_identity_7 rfl h (fun h => ?_) (fun h => ?_)
    · refine zg_iconst hX dWP_identity_19 (-1 : Int32) (by decide) ?_
      cases h
      exact zg_iret hX hr (by decide) dWP_identity_20
    · refine zg_iload_n hX dWP_identity_10 rfl ?_
      refine zg_if_eq (tgt := 21) hX dWP_identity_11 rfl h (fun h => ?_) (fun h => ?_)
      · exact zg_sub (zl_k (zl_k (zl_k zl_n))) (zm_WP_identity_j21 hX hr hm w a0 x1 x2 h)
      · refine zg_iload_n hX dWP_identity_14 rfl ?_
        refine zg_iconst hX dWP_identity_15 (1 : Int32) (by decide) ?_
        refine zg_icmp_eq (tgt := 21) hX dWP_identity_16 rfl h (fun h => ?_) (fun h => ?_)
        · exact zg_sub (zl_k (zl_k (zl_k zl_n))) (zm_WP_identity_j21 hX hr hm w a0 x1 x2 h)
        · refine zg_iconst hX dWP_identity_19 (-1 : Int32) (by decide) ?_
          cases h
          exact zg_iret hX hr (by decide) dWP_identity_20
def zf_Pg_heardOf_L2 (F : Nat) : Nat → zw_T → Nat → Int32 → Int32 → Option (Option Nat × zw_T)
  | 0, _, _, _, _ => none
  | n + 1, w, a0, x1, x2 =>
  zf_at w 7 (some a0) fun a4 =>
  if (zw_I w 1385 a4 0) ≤ x2 then (
  some (none, w))
  else (
  zf_at w 7 (some a0) fun a11 =>
  zf_ix w 401 (zw_R w 1384 a11 0) x2 fun a15 j15 =>
  zf_at w 2 (zw_R w 401 a15 j15) fun a16 =>
  zf_at w 3 (zw_R w 1064 a16 0) fun a19 =>
  if (zw_I w 1128 a19 0) = x1 then (
  zf_at w 7 (some a0) fun a27 =>
  zf_ix w 401 (zw_R w 1384 a27 0) x2 fun a31 j31 =>
  some ((zw_R w 401 a31 j31), w))
  else (
  zf_let (x2 + (1 : Int32)) fun y33 =>
  zf_Pg_heardOf_L2 F n w a0 x1 y33))
def zf_Pg_heardOf (F : Nat) (w : zw_T) (a0 : Nat) (x1 : Int32) : Option (Option Nat × zw_T) :=
  zf_let (0 : Int32) fun y1 =>
  zf_Pg_heardOf_L2 F F w a0 x1 y1
set_option maxHeartbeats 4000000 in
set_option maxRecDepth 100000 in
theorem zm_Pg_heardOf_L2 {X : zg_X} {D : va_G} {G : zw_G} {A : Nat → Prop} {F : Nat} {r : Option Nat × zw_T} (hX : zg_ok X cPg_heardOf RPg 3 0 0 128 0 D G A) (hr : zg_rt X = some (.object "WakingPagers$Heard")) (hm : zg_nm X = yPg_heardOf.name) : ∀ (n : Nat) (w : zw_T) (a0 : Nat) (x1 : Int32) (x2 : Int32), zf_Pg_heardOf_L2 F n w a0 x1 x2 = some r → zg X D G A (zg_Q X D G A 128 0 (zr_r r)) 128 0 w 2 [some (va_rf (some a0)), some (.int x1), some (.int x2)] [] := by
  intro n
  induction n with
  | zero =>
    intro w a0 x1 x2 h
    unfold zf_Pg_heardOf_L2 at h
    cases h
  | succ n ih =>
    intro w a0 x1 x2 h
    rw [zf_Pg_heardOf_L2] at h
    refine zg_iload_n hX dPg_heardOf_2 rfl ?_
    refine zg_aload_n (x := (some a0)) hX dPg_heardOf_3 rfl ?_
    refine zg_getI (ci := 6) (k := 1) hc_6 (by decide) (by decide) hin_6 zx_275 ft_6_1 hX dPg_heardOf_4 h (fun a4 h => ?_)
    refine zg_icmp_ge (tgt := 39) hX dPg_heardOf_7 rfl h (fun h => ?_) (fun h => ?_)
    · refine zg_null hX dPg_heardOf_39 ?_
      cases h
      exact zg_aret _ hX hr (Or.inl ⟨_, rfl⟩) (by decide) dPg_heardOf_40
    · refine zg_aload_n (x := (some a0)) hX dPg_heardOf_10 rfl ?_
      refine zg_getR (ci := 6) (k := 0) hc_6 (by decide) (by decide) hin_6 zx_274 ft_6_0 hX dPg_heardOf_11 h (fun a11 h => ?_)
      refine zg_iload_n hX dPg_heardOf_14 rfl ?_
      refine zg_aald (ci := 1) (t0 := 3) rfl hX dPg_heardOf_15 h (fun a15 j15 h => ?_)
      refine zg_getR (ci := 1) (k := 0) hc_1 (by decide) (by decide) hin_1 zx_338 ft_1_0 hX dPg_heardOf_16 h (fun a16 h => ?_)
      refine zg_getI (ci := 2) (k := 0) hc_2 (by decide) (by decide) hin_2 zx_181 ft_2_0 hX dPg_heardOf_19 h (fun a19 h => ?_)
      refine zg_iload_n hX dPg_heardOf_22 rfl ?_
      refine zg_icmp_ne (tgt := 33) hX dPg_heardOf_23 rfl h (fun h => ?_) (fun h => ?_)
      · refine zg_aload_n (x := (some a0)) hX dPg_heardOf_26 rfl ?_
        refine zg_getR (ci := 6) (k := 0) hc_6 (by decide) (by decide) hin_6 zx_274 ft_6_0 hX dPg_heardOf_27 h (fun a27 h => ?_)
        refine zg_iload_n hX dPg_heardOf_30 rfl ?_
        refine zg_aald (ci := 1) (t0 := 3) rfl hX dPg_heardOf_31 h (fun a31 j31 h => ?_)
        cases h
        exact zg_aret _ hX hr (Or.inl ⟨_, rfl⟩) (by decide) dPg_heardOf_32
      · refine zg_iinc hX dPg_heardOf_33 (1 : Int32) rfl (by decide) (Nat.le_of_ble_eq_true rfl) rfl h (fun y33 h => ?_)
        refine zg_goto (tgt := 2) hX dPg_heardOf_36 rfl ?_
        exact zg_sub (zl_k (zl_k (zl_k zl_n))) (ih w a0 x1 y33 h)
set_option maxHeartbeats 4000000 in
set_option maxRecDepth 100000 in
theorem zm_Pg_heardOf (l : Launch) (D : va_G) (G : zw_G) (A : Nat → Prop) (F : Nat) (w : zw_T) (a0 : Nat) (x1 : Int32) (r : Option Nat × zw_T) (h : zf_Pg_heardOf F w a0 x1 = some r) : zc l yPg_heardOf wsPg_heardOf 0 0 128 0 D G A [.ref a0, .int x1] w (zr_r r) := by
  refine zc_of (ret := some (.object "WakingPagers$Heard")) [some (va_rf (some a0)), some (.int x1), none] (plainFor_of_name (by decide +kernel)) rfl (Nat.le_of_ble_eq_true rfl) rfl rfl (fun X hX hr hm => ?_)
  unfold zf_Pg_heardOf at h
  refine zg_iconst hX dPg_heardOf_0 (0 : Int32) (by decide) ?_
  refine zg_istore_n hX dPg_heardOf_1 (Nat.le_of_ble_eq_true rfl) rfl h (fun y1 h => ?_)
  exact zg_sub (zl_k (zl_k (zl_k zl_n))) (zm_Pg_heardOf_L2 hX hr hm F w a0 x1 y1 h)
def zf_Hd_init (F : Nat) (w : zw_T) (a0 : Nat) (o1 : Option Nat) : Option (zw_T) :=
  zf_at w 2 (some a0) fun a6 => zf_let (zw_sL w 1065 a6 0 (0 : Int64)) fun w6 =>
  zf_at w6 2 (some a0) fun a11 => zf_let (zw_sI w6 1066 a11 0 (-1 : Int32)) fun w11 =>
  zf_at w11 2 (some a0) fun a16 => zf_let (zw_sR w11 1064 a16 0 o1) fun w16 =>
  some w16
set_option maxHeartbeats 4000000 in
set_option maxRecDepth 100000 in
theorem zm_Hd_init (l : Launch) (D : va_G) (G : zw_G) (A : Nat → Prop) (F : Nat) (w : zw_T) (a0 : Nat) (o1 : Option Nat) (r : zw_T) (h : zf_Hd_init F w a0 o1 = some r) : zc l yHd_init wsHd_init 1 20 128 0 D G A [.ref a0, va_rf o1] w (zr_v r) := by
  refine zc_of (ret := none) [some (va_rf (some a0)), some (va_rf o1)] (plainFor_of_name (by decide +kernel)) rfl (by cases o1 <;> exact Nat.le_of_ble_eq_true rfl) rfl rfl (fun X hX hr hm => ?_)
  unfold zf_Hd_init at h
  refine zg_aload_n (x := (some a0)) hX dHd_init_0 rfl ?_
  refine zg_oinit zx_336 zx_22 zx_23 (by decide) (by decide) rfl hX dHd_init_1 ?_
  refine zg_aload_n (x := (some a0)) hX dHd_init_4 rfl ?_
  refine zg_lconst hX dHd_init_5 (0 : Int64) (by decide) ?_
  refine zg_putL (ci := 1) (k := 1) hc_1 (by decide) (by decide) hin_1 zx_340 ft_1_1 tyHd okHd nmHd rfl rfl rfl hX dHd_init_6 h (fun w6 h => ?_)
  refine zg_aload_n (x := (some a0)) hX dHd_init_9 rfl ?_
  refine zg_iconst hX dHd_init_10 (-1 : Int32) (by decide) ?_
  refine zg_putI (ci := 1) (k := 2) hc_1 (by decide) (by decide) hin_1 zx_342 ft_1_2 tyHd okHd nmHd rfl (vp_nar_int _) rfl hX dHd_init_11 h (fun w11 h => ?_)
  refine zg_aload_n (x := (some a0)) hX dHd_init_14 rfl ?_
  refine zg_aload_n (x := o1) hX dHd_init_15 rfl ?_
  refine zg_pfiR (ci := 1) (k := 0) hc_1 (by decide) (by decide) hin_1 zx_337 ft_1_0 tyHd okHd nmHd rfl hm rfl (zv_no _ _).1 (zv_no _ _).2 hX dHd_init_16 h (fun w16 h => ?_)
  cases h
  exact zg_vret hX hr (by decide) dHd_init_19
def zf_Pg_addHeard (F : Nat) (w : zw_T) (a0 : Nat) (o1 : Option Nat) : Option (Int32 × zw_T) :=
  zf_at w 7 (some a0) fun a1 =>
  if (4 : Int32) ≤ (zw_I w 1385 a1 0) then (
  zf_b (0 : Int32) (some ((0 : Int32), w)))
  else (
  zf_at w 3 o1 fun a10 =>
  zf_at w 7 (some a0) fun a13 =>
  zf_bd (zf_Pg_heardOf F w a13 (zw_I w 1128 a10 0)) fun v13 w13 =>
  if v13 = none then (
  zf_at w13 7 (some a0) fun a22 =>
  zf_at w13 7 (some a0) fun a26 =>
  zf_let (zw_new w13 2 0) fun w29 =>
  zf_bv (zf_Hd_init F w29 (zw_n w13) o1) fun w34 =>
  zf_at w34 2 (some (zw_n w13)) fun b37 => zf_ix w34 401 (zw_R w13 1384 a22 0) (zw_I w13 1385 a26 0) fun a37 j37 => zf_let (zw_sR w34 401 a37 j37 (some b37)) fun w37 =>
  zf_at w37 7 (some a0) fun a40 =>
  zf_at w37 7 (some a0) fun a45 => zf_let (zw_sI w37 1385 a45 0 ((zw_I w37 1385 a40 0) + (1 : Int32))) fun w45 =>
  zf_b (1 : Int32) (some ((1 : Int32), w45)))
  else (
  zf_b (0 : Int32) (some ((0 : Int32), w13))))
set_option maxHeartbeats 4000000 in
set_option maxRecDepth 100000 in
theorem zm_Pg_addHeard (l : Launch) (D : va_G) (G : zw_G) (A : Nat → Prop) (F : Nat) (w : zw_T) (a0 : Nat) (o1 : Option Nat) (r : Int32 × zw_T) (h : zf_Pg_addHeard F w a0 o1 = some r) : zc l yPg_addHeard wsPg_addHeard 2 41 128 1 D G A [.ref a0, va_rf o1] w (zr_i r) := by
  refine zc_of (ret := some .boolean) [some (va_rf (some a0)), some (va_rf o1)] (plainFor_of_name (by decide +kernel)) rfl (by cases o1 <;> exact Nat.le_of_ble_eq_true rfl) rfl rfl (fun X hX hr hm => ?_)
  unfold zf_Pg_addHeard at h
  refine zg_aload_n (x := (some a0)) hX dPg_addHeard_0 rfl ?_
  refine zg_getI (ci := 6) (k := 1) hc_6 (by decide) (by decide) hin_6 zx_275 ft_6_1 hX dPg_addHeard_1 h (fun a1 h => ?_)
  refine zg_iconst hX dPg_addHeard_4 (4 : Int32) (by decide) ?_
  refine zg_icmp_ge (tgt := 19) hX dPg_addHeard_5 rfl h (fun h => ?_) (fun h => ?_)
  · refine zg_iconst hX dPg_addHeard_19 (0 : Int32) (by decide) ?_
    obtain ⟨hb20, h⟩ := zf_b_e h
    cases h
    exact zg_zret hX hr (zf_b_n hb20).1 (by decide) dPg_addHeard_20
  · refine zg_aload_n (x := (some a0)) hX dPg_addHeard_8 rfl ?_
    refine zg_aload_n (x := o1) hX dPg_addHeard_9 rfl ?_
    refine zg_getI (ci := 2) (k := 0) hc_2 (by decide) (by decide) hin_2 zx_181 ft_2_0 hX dPg_addHeard_10 h (fun a10 h => ?_)
    obtain ⟨a13, e13, t13, h⟩ := zf_at_e h
    obtain ⟨v13, w13, q13, h⟩ := zf_bd_e h
    refine zg_callV_r (mcy := 0) (v := v13) (w1 := w13) (st := []) hc_6 (by decide) e13 t13 [.int (zw_I w 1128 a10 0)] (fun l => zm_Pg_heardOf l D G A F w a13 (zw_I w 1128 a10 0) (v13, w13) q13) (zt_V zx_328 zx_329 zx_330 zx_9 zx_331) rfl hd_Pg_heardOf (by decide) (by decide) (by decide) (Nat.le_of_ble_eq_true rfl) rfl rfl hX dPg_addHeard_13 ?_
    refine zg_ifnull (tgt := 21) hX dPg_addHeard_16 rfl h (fun h => ?_) (fun h => ?_)
    · refine zg_aload_n (x := (some a0)) hX dPg_addHeard_21 rfl ?_
      refine zg_getR (ci := 6) (k := 0) hc_6 (by decide) (by decide) hin_6 zx_274 ft_6_0 hX dPg_addHeard_22 h (fun a22 h => ?_)
      refine zg_aload_n (x := (some a0)) hX dPg_addHeard_25 rfl ?_
      refine zg_getI (ci := 6) (k := 1) hc_6 (by decide) (by decide) hin_6 zx_275 ft_6_1 hX dPg_addHeard_26 h (fun a26 h => ?_)
      refine zg_new (ci := 1) hc_1 (by decide) hin_1 tyHd okHd df_1 zx_239 zx_332 zx_11 (by decide) (by decide) hX dPg_addHeard_29 h (fun w29 h => ?_)
      refine zg_dup hX dPg_addHeard_32 rfl ?_
      refine zg_aload_n (x := o1) hX dPg_addHeard_33 rfl ?_
      obtain ⟨w34, q34, h⟩ := zf_bv_e h
      refine zg_callI_v (mcy := 0) (w1 := w34) (st := [va_rf (some (zw_n w13)), .int (zw_I w13 1385 a26 0), va_rf (zw_R w13 1384 a22 0)]) [va_rf o1] (fun l => zm_Hd_init l D G A F w29 (zw_n w13) o1 w34 q34) rfl rfl (zt_G zx_335) zx_333 zx_11 zx_334 rfl hd_Hd_init (by decide) (by decide) (by decide) (Nat.le_trans (zv_s (zv_cat _) (zv_s rfl (zv_s (zv_cat _) zv_s0))) (by decide)) rfl rfl hX dPg_addHeard_34 ?_
      refine zg_aast (ci := 1) (kd := 401) hc_1 (by decide) rfl (t0 := 3) rfl rfl hX dPg_addHeard_37 h (fun w37 h => ?_)
      refine zg_aload_n (x := (some a0)) hX dPg_addHeard_38 rfl ?_
      refine zg_dup hX dPg_addHeard_39 rfl ?_
      refine zg_getI (ci := 6) (k := 1) hc_6 (by decide) (by decide) hin_6 zx_275 ft_6_1 hX dPg_addHeard_40 h (fun a40 h => ?_)
      refine zg_iconst hX dPg_addHeard_43 (1 : Int32) (by decide) ?_
      refine zg_iadd hX dPg_addHeard_44 ?_
      refine zg_putI (ci := 6) (k := 1) hc_6 (by decide) (by decide) hin_6 zx_275 ft_6_1 tyPg okPg nmPg rfl (vp_nar_int _) rfl hX dPg_addHeard_45 h (fun w45 h => ?_)
      refine zg_iconst hX dPg_addHeard_48 (1 : Int32) (by decide) ?_
      obtain ⟨hb49, h⟩ := zf_b_e h
      cases h
      exact zg_zret hX hr (zf_b_n hb49).1 (by decide) dPg_addHeard_49
    · refine zg_iconst hX dPg_addHeard_19 (0 : Int32) (by decide) ?_
      obtain ⟨hb20, h⟩ := zf_b_e h
      cases h
      exact zg_zret hX hr (zf_b_n hb20).1 (by decide) dPg_addHeard_20
def zf_WP_join (F : Nat) (w : zw_T) (a0 : Nat) (x1 : Int32) (x2 : Int32) : Option (Int32 × zw_T) :=
  zf_at w 9 (some a0) fun a2 =>
  zf_bd (zf_WP_pagerAt F w a2 x1) fun v2 w2 =>
  zf_let v2 fun y5 =>
  zf_at w2 9 (some a0) fun a8 =>
  zf_bd (zf_WP_identityAt F w2 a8 x2) fun v8 w8 =>
  zf_let v8 fun y11 =>
  if y5 = none then (
  some ((-1 : Int32), w8))
  else (
  if y11 = none then (
  some ((-1 : Int32), w8))
  else (
  zf_at w8 7 y5 fun a27 =>
  zf_bd (zf_Pg_addHeard F w8 a27 y11) fun v27 w27 =>
  if v27 = 0 then (
  some ((-1 : Int32), w27))
  else (
  zf_at w27 7 y5 fun a34 =>
  some ((zw_I w27 1385 a34 0), w27))))
set_option maxHeartbeats 4000000 in
set_option maxRecDepth 100000 in
theorem zm_WP_join (l : Launch) (D : va_G) (G : zw_G) (A : Nat → Prop) (F : Nat) (w : zw_T) (a0 : Nat) (x1 : Int32) (x2 : Int32) (r : Int32 × zw_T) (h : zf_WP_join F w a0 x1 x2 = some r) : zc l yWP_join wsWP_join 3 62 128 1 D G A [.ref a0, .int x1, .int x2] w (zr_i r) := by
  refine zc_of (ret := some .int) [some (va_rf (some a0)), some (.int x1), some (.int x2), none, none] (plainFor_of_name (by decide +kernel)) rfl (Nat.le_of_ble_eq_true rfl) rfl rfl (fun X hX hr hm => ?_)
  unfold zf_WP_join at h
  refine zg_aload_n (x := (some a0)) hX dWP_join_0 rfl ?_
  refine zg_iload_n hX dWP_join_1 rfl ?_
  obtain ⟨a2, e2, t2, h⟩ := zf_at_e h
  obtain ⟨v2, w2, q2, h⟩ := zf_bd_e h
  refine zg_callV_r (mcy := 0) (v := v2) (w1 := w2) (st := []) hc_8 (by decide) e2 t2 [.int x1] (fun l => zm_WP_pagerAt l D G A F w a2 x1 (v2, w2) q2) (zt_V zx_316 zx_318 zs_1 zx_1 zx_319) rfl hd_WP_pagerAt (by decide) (by decide) (by decide) (Nat.le_of_ble_eq_true rfl) rfl rfl hX dWP_join_2 ?_
  refine zg_astore_n hX dWP_join_5 (Nat.le_of_ble_eq_true rfl) rfl h (fun y5 h => ?_)
  refine zg_aload_n (x := (some a0)) hX dWP_join_6 rfl ?_
  refine zg_iload_n hX dWP_join_7 rfl ?_
  obtain ⟨a8, e8, t8, h⟩ := zf_at_e h
  obtain ⟨v8, w8, q8, h⟩ := zf_bd_e h
  refine zg_callV_r (mcy := 0) (v := v8) (w1 := w8) (st := []) hc_8 (by decide) e8 t8 [.int x2] (fun l => zm_WP_identityAt l D G A F w2 a8 x2 (v8, w8) q8) (zt_V zx_320 zx_322 zs_2 zx_1 zx_323) rfl hd_WP_identityAt (by decide) (by decide) (by decide) (Nat.le_of_ble_eq_true rfl) rfl rfl hX dWP_join_8 ?_
  refine zg_astore hX dWP_join_11 (Nat.le_of_ble_eq_true rfl) (zl_fq 3 rfl) h (fun y11 h => ?_)
  refine zg_aload_n (x := y5) hX dWP_join_13 rfl ?_
  refine zg_ifnull (tgt := 22) hX dWP_join_14 rfl h (fun h => ?_) (fun h => ?_)
  · refine zg_iconst hX dWP_join_22 (-1 : Int32) (by decide) ?_
    cases h
    exact zg_iret hX hr (by decide) dWP_join_23
  · refine zg_aload (x := y11) hX dWP_join_17 rfl ?_
    refine zg_ifnonnull (tgt := 24) hX dWP_join_19 rfl h (fun h => ?_) (fun h => ?_)
    · refine zg_iconst hX dWP_join_22 (-1 : Int32) (by decide) ?_
      cases h
      exact zg_iret hX hr (by decide) dWP_join_23
    · refine zg_aload_n (x := y5) hX dWP_join_24 rfl ?_
      refine zg_aload (x := y11) hX dWP_join_25 rfl ?_
      obtain ⟨a27, e27, t27, h⟩ := zf_at_e h
      obtain ⟨v27, w27, q27, h⟩ := zf_bd_e h
      refine zg_callV_i (mcy := 1) (v := v27) (w1 := w27) (st := []) hc_6 (by decide) e27 t27 [va_rf y11] (fun l => zm_Pg_addHeard l D G A F w8 a27 y11 (v27, w27) q27) (zt_V zx_324 zx_325 zx_326 zx_9 zx_327) rfl hd_Pg_addHeard (by decide) (by decide) (by decide) (Nat.le_of_ble_eq_true rfl) rfl rfl hX dWP_join_27 ?_
      refine zg_if_eq (tgt := 40) hX dWP_join_30 rfl h (fun h => ?_) (fun h => ?_)
      · refine zg_iconst hX dWP_join_40 (-1 : Int32) (by decide) ?_
        cases h
        exact zg_iret hX hr (by decide) dWP_join_41
      · refine zg_aload_n (x := y5) hX dWP_join_33 rfl ?_
        refine zg_getI (ci := 6) (k := 1) hc_6 (by decide) (by decide) hin_6 zx_276 ft_6_1 hX dWP_join_34 h (fun a34 h => ?_)
        refine zg_goto (tgt := 41) hX dWP_join_37 rfl ?_
        cases h
        exact zg_iret hX hr (by decide) dWP_join_41
def zf_WP_kept (F : Nat) (w : zw_T) (a0 : Nat) (x1 : Int32) : Option (Int32 × zw_T) :=
  zf_at w 9 (some a0) fun a2 =>
  zf_bd (zf_WP_pagerAt F w a2 x1) fun v2 w2 =>
  zf_let v2 fun y5 =>
  if y5 = none then (
  some ((-1 : Int32), w2))
  else (
  zf_at w2 7 y5 fun a15 =>
  some ((zw_I w2 1388 a15 0), w2))
set_option maxHeartbeats 4000000 in
set_option maxRecDepth 100000 in
theorem zm_WP_kept (l : Launch) (D : va_G) (G : zw_G) (A : Nat → Prop) (F : Nat) (w : zw_T) (a0 : Nat) (x1 : Int32) (r : Int32 × zw_T) (h : zf_WP_kept F w a0 x1 = some r) : zc l yWP_kept wsWP_kept 1 21 128 0 D G A [.ref a0, .int x1] w (zr_i r) := by
  refine zc_of (ret := some .int) [some (va_rf (some a0)), some (.int x1), none] (plainFor_of_name (by decide +kernel)) rfl (Nat.le_of_ble_eq_true rfl) rfl rfl (fun X hX hr hm => ?_)
  unfold zf_WP_kept at h
  refine zg_aload_n (x := (some a0)) hX dWP_kept_0 rfl ?_
  refine zg_iload_n hX dWP_kept_1 rfl ?_
  obtain ⟨a2, e2, t2, h⟩ := zf_at_e h
  obtain ⟨v2, w2, q2, h⟩ := zf_bd_e h
  refine zg_callV_r (mcy := 0) (v := v2) (w1 := w2) (st := []) hc_8 (by decide) e2 t2 [.int x1] (fun l => zm_WP_pagerAt l D G A F w a2 x1 (v2, w2) q2) (zt_V zx_316 zx_318 zs_1 zx_1 zx_319) rfl hd_WP_pagerAt (by decide) (by decide) (by decide) (Nat.le_of_ble_eq_true rfl) rfl rfl hX dWP_kept_2 ?_
  refine zg_astore_n hX dWP_kept_5 (Nat.le_of_ble_eq_true rfl) rfl h (fun y5 h => ?_)
  refine zg_aload_n (x := y5) hX dWP_kept_6 rfl ?_
  refine zg_ifnonnull (tgt := 14) hX dWP_kept_7 rfl h (fun h => ?_) (fun h => ?_)
  · refine zg_iconst hX dWP_kept_10 (-1 : Int32) (by decide) ?_
    refine zg_goto (tgt := 18) hX dWP_kept_11 rfl ?_
    cases h
    exact zg_iret hX hr (by decide) dWP_kept_18
  · refine zg_aload_n (x := y5) hX dWP_kept_14 rfl ?_
    refine zg_getI (ci := 6) (k := 4) hc_6 (by decide) (by decide) hin_6 zx_280 ft_6_4 hX dWP_kept_15 h (fun a15 h => ?_)
    cases h
    exact zg_iret hX hr (by decide) dWP_kept_18
