def zf_Mo_finish_j235 (F : Nat) (w : zw_T) (a0 : Nat) : Option (zw_T) :=
  zf_at w 10 (some a0) fun a237 => zf_let (zw_sI w 1608 a237 0 (-1 : Int32)) fun w237 =>
  some w237
def zf_Mo_finish_L185 (F : Nat) : Nat → zw_T → Nat → Int32 → Int32 → Int32 → Int32 → Int32 → Option (zw_T)
  | 0, _, _, _, _, _, _, _ => none
  | n + 1, w, a0, x3, x4, x5, x7, x8 =>
  if x3 ≤ x8 then (
  zf_at w 10 (some a0) fun a222 =>
  zf_bv (zf_Mo_note F w a222 x4) fun w222 =>
  zf_at w222 10 (some a0) fun a227 =>
  zf_at w222 10 (some a0) fun a232 => zf_let (zw_sI w222 1611 a232 0 ((zw_I w222 1611 a227 0) + (1 : Int32))) fun w232 =>
  zf_Mo_finish_j235 F w232 a0)
  else (
  zf_at w 10 (some a0) fun a192 =>
  zf_at w 10 (some a0) fun a209 =>
  zf_bd (zf_Mo_gotSign F w a209 x8) fun v209 w209 =>
  zf_ix w209 137 (zw_R w 1603 a192 0) ((((22 : Int32) * x7) + x8) - x5) fun a212 j212 => zf_let (zw_sI w209 137 a212 j212 v209) fun w212 =>
  zf_let (x8 + (1 : Int32)) fun y213 =>
  zf_Mo_finish_L185 F n w212 a0 x3 x4 x5 x7 y213)
def zf_Mo_finish_j111 (F : Nat) (w : zw_T) (a0 : Nat) (x1 : Int32) (x3 : Int32) (x4 : Int32) (x5 : Int32) : Option (zw_T) :=
  if 0 ≤ x4 then (
  zf_at w 10 (some a0) fun a137 =>
  zf_bd (zf_Mo_room F w a137) fun v137 w137 =>
  zf_let v137 fun y140 =>
  zf_at w137 10 (some a0) fun a143 =>
  zf_at w137 10 (some a0) fun a149 =>
  zf_ix w137 134 (zw_R w137 1599 a143 0) y140 fun a152 j152 => zf_let (zw_sI w137 134 a152 j152 (zw_I w137 1608 a149 0)) fun w152 =>
  zf_at w152 10 (some a0) fun a154 =>
  zf_ix w152 135 (zw_R w152 1600 a154 0) y140 fun a161 j161 => zf_let (zw_sI w152 135 a161 j161 x4) fun w161 =>
  zf_at w161 10 (some a0) fun a163 =>
  zf_ix w161 136 (zw_R w161 1601 a163 0) y140 fun a172 j172 => zf_let (zw_sI w161 136 a172 j172 (x3 - x5)) fun w172 =>
  zf_at w172 10 (some a0) fun a174 =>
  zf_ix w172 202 (zw_R w172 1602 a174 0) y140 fun a180 j180 => zf_let (zw_sI w172 202 a180 j180 (vp_nar .boolean x1)) fun w180 =>
  zf_let x5 fun y183 =>
  zf_Mo_finish_L185 F F w180 a0 x3 x4 x5 y140 y183)
  else (
  zf_at w 10 (some a0) fun a117 =>
  zf_at w 10 (some a0) fun a122 =>
  zf_ix w 139 (zw_R w 1606 a117 0) (((4 : Int32) * (zw_I w 1607 a122 0)) + (3 : Int32)) fun a129 j129 =>
  zf_ix w 139 (zw_R w 1606 a117 0) (((4 : Int32) * (zw_I w 1607 a122 0)) + (3 : Int32)) fun a132 j132 => zf_let (zw_sI w 139 a132 j132 ((zw_I w 139 a129 j129) + (1 : Int32))) fun w132 =>
  zf_Mo_finish_j235 F w132 a0)
def zf_Mo_finish_L87 (F : Nat) : Nat → zw_T → Nat → Int32 → Int32 → Int32 → Int32 → Int32 → Option (zw_T)
  | 0, _, _, _, _, _, _, _ => none
  | n + 1, w, a0, x1, x3, x4, x5, x6 =>
  if x3 ≤ x5 then (
  zf_Mo_finish_j111 F w a0 x1 x3 x4 x5)
  else (
  zf_at w 10 (some a0) fun a97 =>
  zf_bd (zf_Mo_gotSign F w a97 (x3 - (1 : Int32))) fun v97 w97 =>
  if v97 = x6 then (
  zf_let (x3 + (-1 : Int32)) fun y105 =>
  zf_Mo_finish_L87 F n w97 a0 x1 y105 x4 x5 x6)
  else (
  zf_Mo_finish_j111 F w97 a0 x1 x3 x4 x5))
def zf_Mo_finish_j85 (F : Nat) (w : zw_T) (a0 : Nat) (x1 : Int32) (x3 : Int32) (x4 : Int32) (x5 : Int32) (s0 : Int32) : Option (zw_T) :=
  zf_let s0 fun y85 =>
  zf_Mo_finish_L87 F F w a0 x1 x3 x4 x5 y85
def zf_Mo_finish_j46 (F : Nat) (w : zw_T) (a0 : Nat) (x1 : Int32) (s0 : Int32) : Option (zw_T) :=
  zf_let s0 fun y46 =>
  zf_at w 10 (some a0) fun a49 =>
  zf_bd (zf_Mo_numberOf F w a49 y46) fun v49 w49 =>
  zf_let v49 fun y52 =>
  zf_at w49 10 (some a0) fun a56 =>
  zf_at w49 10 (some a0) fun a60 =>
  zf_ix w49 121 (zw_R w49 1578 a56 0) (zw_I w49 1608 a60 0) fun a63 j63 =>
  zf_let ((2 : Int32) - (zw_I w49 121 a63 j63)) fun y65 =>
  zf_at w49 10 (some a0) fun a68 =>
  zf_at w49 10 (some a0) fun a72 =>
  zf_ix w49 121 (zw_R w49 1578 a68 0) (zw_I w49 1608 a72 0) fun a75 j75 =>
  if (zw_I w49 121 a75 j75) = 0 then (
  zf_Mo_finish_j85 F w49 a0 x1 y46 y52 y65 (12 : Int32))
  else (
  zf_Mo_finish_j85 F w49 a0 x1 y46 y52 y65 (0 : Int32))
def zf_Mo_finish_j26 (F : Nat) (w : zw_T) (a0 : Nat) (x1 : Int32) (s0 : Int32) : Option (zw_T) :=
  zf_let s0 fun y26 =>
  zf_at w 10 (some a0) fun a28 =>
  zf_nz y26 (
  zf_let ((zw_I w 1610 a28 0) / y26) fun y33 =>
  if y33 ≤ (22 : Int32) then (
  zf_Mo_finish_j46 F w a0 x1 y33)
  else (
  zf_Mo_finish_j46 F w a0 x1 (22 : Int32)))
def zf_Mo_finish (F : Nat) (w : zw_T) (a0 : Nat) (x1 : Int32) : Option (zw_T) :=
  zf_at w 10 (some a0) fun a1 =>
  if 0 ≤ (zw_I w 1608 a1 0) then (
  zf_at w 10 (some a0) fun a9 =>
  zf_at w 10 (some a0) fun a13 =>
  zf_ix w 121 (zw_R w 1578 a9 0) (zw_I w 1608 a13 0) fun a16 j16 =>
  if (zw_I w 121 a16 j16) = 0 then (
  zf_Mo_finish_j26 F w a0 x1 (4 : Int32))
  else (
  zf_Mo_finish_j26 F w a0 x1 (7 : Int32)))
  else (
  some w)
set_option maxHeartbeats 4000000 in
set_option maxRecDepth 100000 in
theorem zm_Mo_finish_j235 {X : zg_X} {D : va_G} {G : zw_G} {A : Nat → Prop} {F : Nat} {r : zw_T} (hX : zg_ok X cMo_finish RMo 9 2 46 128 0 D G A) (hr : zg_rt X = none) (hm : zg_nm X = yMo_finish.name) (w : zw_T) (a0 : Nat) (h : zf_Mo_finish_j235 F w a0 = some r) : zg X D G A (zg_Q X D G A 128 0 (zr_v r)) 128 0 w 235 [some (va_rf (some a0)), none, none, none, none, none, none, none, none] [] := by
  unfold zf_Mo_finish_j235 at h
  refine zg_aload_n (x := (some a0)) hX dMo_finish_235 rfl ?_
  refine zg_iconst hX dMo_finish_236 (-1 : Int32) (by decide) ?_
  refine zg_putI (ci := 9) (k := 32) hc_9 (by decide) (by decide) hin_9 zx_652 ft_9_32 tyMo okMo nmMo rfl (vp_nar_int _) rfl hX dMo_finish_237 h (fun w237 h => ?_)
  cases h
  exact zg_vret hX hr (by decide) dMo_finish_240
set_option maxHeartbeats 4000000 in
set_option maxRecDepth 100000 in
theorem zm_Mo_finish_L185 {X : zg_X} {D : va_G} {G : zw_G} {A : Nat → Prop} {F : Nat} {r : zw_T} (hX : zg_ok X cMo_finish RMo 9 2 46 128 0 D G A) (hr : zg_rt X = none) (hm : zg_nm X = yMo_finish.name) : ∀ (n : Nat) (w : zw_T) (a0 : Nat) (x3 : Int32) (x4 : Int32) (x5 : Int32) (x7 : Int32) (x8 : Int32), zf_Mo_finish_L185 F n w a0 x3 x4 x5 x7 x8 = some r → zg X D G A (zg_Q X D G A 128 0 (zr_v r)) 128 0 w 185 [some (va_rf (some a0)), none, none, some (.int x3), some (.int x4), some (.int x5), none, some (.int x7), some (.int x8)] [] := by
  intro n
  induction n with
  | zero =>
    intro w a0 x3 x4 x5 x7 x8 h
    unfold zf_Mo_finish_L185 at h
    cases h
  | succ n ih =>
    intro w a0 x3 x4 x5 x7 x8 h
    rw [zf_Mo_finish_L185] at h
    refine zg_iload hX dMo_finish_185 rfl ?_
    refine zg_iload_n hX dMo_finish_187 rfl ?_
    refine zg_icmp_ge (tgt := 219) hX dMo_finish_188 rfl h (fun h => ?_) (fun h => ?_)
    · refine zg_aload_n (x := (some a0)) hX dMo_finish_219 rfl ?_
      refine zg_iload hX dMo_finish_220 rfl ?_
      obtain ⟨a222, e222, t222, h⟩ := zf_at_e h
      obtain ⟨w222, q222, h⟩ := zf_bv_e h
      refine zg_callV_v (mcy := 0) (w1 := w222) (st := []) hc_9 (by decide) e222 t222 [.int x4] (fun l => zm_Mo_note l D G A F w a222 x4 w222 q222) (zt_V zx_884 zx_886 zs_37 zx_5 zx_887) rfl hd_Mo_note (by decide) (by decide) (by decide) (Nat.le_of_ble_eq_true rfl) rfl rfl hX dMo_finish_222 ?_
      refine zg_aload_n (x := (some a0)) hX dMo_finish_225 rfl ?_
      refine zg_dup hX dMo_finish_226 rfl ?_
      refine zg_getI (ci := 9) (k := 35) hc_9 (by decide) (by decide) hin_9 zx_655 ft_9_35 hX dMo_finish_227 h (fun a227 h => ?_)
      refine zg_iconst hX dMo_finish_230 (1 : Int32) (by decide) ?_
      refine zg_iadd hX dMo_finish_231 ?_
      refine zg_putI (ci := 9) (k := 35) hc_9 (by decide) (by decide) hin_9 zx_655 ft_9_35 tyMo okMo nmMo rfl (vp_nar_int _) rfl hX dMo_finish_232 h (fun w232 h => ?_)
      exact zg_sub (zl_k (zl_d (zl_d (zl_d (zl_d (zl_d (zl_d (zl_d (zl_d zl_n))))))))) (zm_Mo_finish_j235 hX hr hm w232 a0 h)
    · refine zg_aload_n (x := (some a0)) hX dMo_finish_191 rfl ?_
      refine zg_getR (ci := 9) (k := 27) hc_9 (by decide) (by decide) hin_9 zx_647 ft_9_27 hX dMo_finish_192 h (fun a192 h => ?_)
      refine zg_bipush hX dMo_finish_195 (22 : Int32) (by decide) ?_
      refine zg_iload hX dMo_finish_197 rfl ?_
      refine zg_imul hX dMo_finish_199 ?_
      refine zg_iload hX dMo_finish_200 rfl ?_
      refine zg_iadd hX dMo_finish_202 ?_
      refine zg_iload hX dMo_finish_203 rfl ?_
      refine zg_isub hX dMo_finish_205 ?_
      refine zg_aload_n (x := (some a0)) hX dMo_finish_206 rfl ?_
      refine zg_iload hX dMo_finish_207 rfl ?_
      obtain ⟨a209, e209, t209, h⟩ := zf_at_e h
      obtain ⟨v209, w209, q209, h⟩ := zf_bd_e h
      refine zg_callV_i (mcy := 0) (v := v209) (w1 := w209) (st := [.int ((((22 : Int32) * x7) + x8) - x5), va_rf (zw_R w 1603 a192 0)]) hc_9 (by decide) e209 t209 [.int x8] (fun l => zm_Mo_gotSign l D G A F w a209 x8 (v209, w209) q209) (zt_V zx_876 zx_878 zs_35 zx_5 zx_879) rfl hd_Mo_gotSign (by decide) (by decide) (by decide) (Nat.le_trans (zv_s rfl (zv_s (zv_cat _) zv_s0)) (by decide)) rfl rfl hX dMo_finish_209 ?_
      refine zg_iast (kd := 137) (by decide) (by decide) hX dMo_finish_212 h (fun w212 h => ?_)
      refine zg_iinc hX dMo_finish_213 (1 : Int32) rfl (by decide) (Nat.le_of_ble_eq_true rfl) rfl h (fun y213 h => ?_)
      refine zg_goto (tgt := 185) hX dMo_finish_216 rfl ?_
      exact zg_sub (zl_k (zl_d (zl_d (zl_k (zl_k (zl_k (zl_d (zl_k (zl_k zl_n))))))))) (ih w212 a0 x3 x4 x5 x7 y213 h)
set_option maxHeartbeats 4000000 in
set_option maxRecDepth 100000 in
theorem zm_Mo_finish_j111 {X : zg_X} {D : va_G} {G : zw_G} {A : Nat → Prop} {F : Nat} {r : zw_T} (hX : zg_ok X cMo_finish RMo 9 2 46 128 0 D G A) (hr : zg_rt X = none) (hm : zg_nm X = yMo_finish.name) (w : zw_T) (a0 : Nat) (x1 : Int32) (x3 : Int32) (x4 : Int32) (x5 : Int32) (h : zf_Mo_finish_j111 F w a0 x1 x3 x4 x5 = some r) : zg X D G A (zg_Q X D G A 128 0 (zr_v r)) 128 0 w 111 [some (va_rf (some a0)), some (.int x1), none, some (.int x3), some (.int x4), some (.int x5), none, none, none] [] := by
  unfold zf_Mo_finish_j111 at h
  refine zg_iload hX dMo_finish_111 rfl ?_
  refine zg_if_ge (tgt := 136) hX dMo_finish_113 rfl h (fun h => ?_) (fun h => ?_)
  · refine zg_aload_n (x := (some a0)) hX dMo_finish_136 rfl ?_
    obtain ⟨a137, e137, t137, h⟩ := zf_at_e h
    obtain ⟨v137, w137, q137, h⟩ := zf_bd_e h
    refine zg_callV_i (mcy := 0) (v := v137) (w1 := w137) (st := []) hc_9 (by decide) e137 t137 [] (fun l => zm_Mo_room l D G A F w a137 (v137, w137) q137) (zt_V zx_880 zx_882 zs_36 zx_5 zx_883) rfl hd_Mo_room (by decide) (by decide) (by decide) (Nat.le_of_ble_eq_true rfl) rfl rfl hX dMo_finish_137 ?_
    refine zg_istore hX dMo_finish_140 (Nat.le_of_ble_eq_true rfl) rfl h (fun y140 h => ?_)
    refine zg_aload_n (x := (some a0)) hX dMo_finish_142 rfl ?_
    refine zg_getR (ci := 9) (k := 23) hc_9 (by decide) (by decide) hin_9 zx_643 ft_9_23 hX dMo_finish_143 h (fun a143 h => ?_)
    refine zg_iload hX dMo_finish_146 rfl ?_
    refine zg_aload_n (x := (some a0)) hX dMo_finish_148 rfl ?_
    refine zg_getI (ci := 9) (k := 32) hc_9 (by decide) (by decide) hin_9 zx_652 ft_9_32 hX dMo_finish_149 h (fun a149 h => ?_)
    refine zg_iast (kd := 134) (by decide) (by decide) hX dMo_finish_152 h (fun w152 h => ?_)
    refine zg_aload_n (x := (some a0)) hX dMo_finish_153 rfl ?_
    refine zg_getR (ci := 9) (k := 24) hc_9 (by decide) (by decide) hin_9 zx_644 ft_9_24 hX dMo_finish_154 h (fun a154 h => ?_)
    refine zg_iload hX dMo_finish_157 rfl ?_
    refine zg_iload hX dMo_finish_159 rfl ?_
    refine zg_iast (kd := 135) (by decide) (by decide) hX dMo_finish_161 h (fun w161 h => ?_)
    refine zg_aload_n (x := (some a0)) hX dMo_finish_162 rfl ?_
    refine zg_getR (ci := 9) (k := 25) hc_9 (by decide) (by decide) hin_9 zx_645 ft_9_25 hX dMo_finish_163 h (fun a163 h => ?_)
    refine zg_iload hX dMo_finish_166 rfl ?_
    refine zg_iload_n hX dMo_finish_168 rfl ?_
    refine zg_iload hX dMo_finish_169 rfl ?_
    refine zg_isub hX dMo_finish_171 ?_
    refine zg_iast (kd := 136) (by decide) (by decide) hX dMo_finish_172 h (fun w172 h => ?_)
    refine zg_aload_n (x := (some a0)) hX dMo_finish_173 rfl ?_
    refine zg_getR (ci := 9) (k := 26) hc_9 (by decide) (by decide) hin_9 zx_646 ft_9_26 hX dMo_finish_174 h (fun a174 h => ?_)
    refine zg_iload hX dMo_finish_177 rfl ?_
    refine zg_iload_n hX dMo_finish_179 rfl ?_
    refine zg_zast (kd := 202) (by decide) (by decide) hX dMo_finish_180 h (fun w180 h => ?_)
    refine zg_iload hX dMo_finish_181 rfl ?_
    refine zg_istore hX dMo_finish_183 (Nat.le_of_ble_eq_true rfl) rfl h (fun y183 h => ?_)
    exact zg_sub (zl_k (zl_d (zl_d (zl_k (zl_k (zl_k (zl_d (zl_k (zl_k zl_n))))))))) (zm_Mo_finish_L185 hX hr hm F w180 a0 x3 x4 x5 y140 y183 h)
  · refine zg_aload_n (x := (some a0)) hX dMo_finish_116 rfl ?_
    refine zg_getR (ci := 9) (k := 30) hc_9 (by decide) (by decide) hin_9 zx_650 ft_9_30 hX dMo_finish_117 h (fun a117 h => ?_)
    refine zg_iconst hX dMo_finish_120 (4 : Int32) (by decide) ?_
    refine zg_aload_n (x := (some a0)) hX dMo_finish_121 rfl ?_
    refine zg_getI (ci := 9) (k := 31) hc_9 (by decide) (by decide) hin_9 zx_651 ft_9_31 hX dMo_finish_122 h (fun a122 h => ?_)
    refine zg_imul hX dMo_finish_125 ?_
    refine zg_iconst hX dMo_finish_126 (3 : Int32) (by decide) ?_
    refine zg_iadd hX dMo_finish_127 ?_
    refine zg_dup2 hX dMo_finish_128 rfl (zv_cat _) ?_
    refine zg_iald (kd := 139) (by decide) (by decide) hX dMo_finish_129 h (fun a129 j129 h => ?_)
    refine zg_iconst hX dMo_finish_130 (1 : Int32) (by decide) ?_
    refine zg_iadd hX dMo_finish_131 ?_
    refine zg_iast (kd := 139) (by decide) (by decide) hX dMo_finish_132 h (fun w132 h => ?_)
    refine zg_goto (tgt := 235) hX dMo_finish_133 rfl ?_
    exact zg_sub (zl_k (zl_d (zl_d (zl_d (zl_d (zl_d (zl_d (zl_d (zl_d zl_n))))))))) (zm_Mo_finish_j235 hX hr hm w132 a0 h)
set_option maxHeartbeats 4000000 in
set_option maxRecDepth 100000 in
theorem zm_Mo_finish_L87 {X : zg_X} {D : va_G} {G : zw_G} {A : Nat → Prop} {F : Nat} {r : zw_T} (hX : zg_ok X cMo_finish RMo 9 2 46 128 0 D G A) (hr : zg_rt X = none) (hm : zg_nm X = yMo_finish.name) : ∀ (n : Nat) (w : zw_T) (a0 : Nat) (x1 : Int32) (x3 : Int32) (x4 : Int32) (x5 : Int32) (x6 : Int32), zf_Mo_finish_L87 F n w a0 x1 x3 x4 x5 x6 = some r → zg X D G A (zg_Q X D G A 128 0 (zr_v r)) 128 0 w 87 [some (va_rf (some a0)), some (.int x1), none, some (.int x3), some (.int x4), some (.int x5), some (.int x6), none, none] [] := by
  intro n
  induction n with
  | zero =>
    intro w a0 x1 x3 x4 x5 x6 h
    unfold zf_Mo_finish_L87 at h
    cases h
  | succ n ih =>
    intro w a0 x1 x3 x4 x5 x6 h
    rw [zf_Mo_finish_L87] at h
    refine zg_iload_n hX dMo_finish_87 rfl ?_
    refine zg_iload hX dMo_finish_88 rfl ?_
    refine zg_icmp_le (tgt := 111) hX dMo_finish_90 rfl h (fun h => ?_) (fun h => ?_)
    · exact zg_sub (zl_k (zl_k (zl_d (zl_k (zl_k (zl_k (zl_d (zl_d (zl_d zl_n))))))))) (zm_Mo_finish_j111 hX hr hm w a0 x1 x3 x4 x5 h)
    · refine zg_aload_n (x := (some a0)) hX dMo_finish_93 rfl ?_
      refine zg_iload_n hX dMo_finish_94 rfl ?_
      refine zg_iconst hX dMo_finish_95 (1 : Int32) (by decide) ?_
      refine zg_isub hX dMo_finish_96 ?_
      obtain ⟨a97, e97, t97, h⟩ := zf_at_e h
      obtain ⟨v97, w97, q97, h⟩ := zf_bd_e h
      refine zg_callV_i (mcy := 0) (v := v97) (w1 := w97) (st := []) hc_9 (by decide) e97 t97 [.int (x3 - (1 : Int32))] (fun l => zm_Mo_gotSign l D G A F w a97 (x3 - (1 : Int32)) (v97, w97) q97) (zt_V zx_876 zx_878 zs_35 zx_5 zx_879) rfl hd_Mo_gotSign (by decide) (by decide) (by decide) (Nat.le_of_ble_eq_true rfl) rfl rfl hX dMo_finish_97 ?_
      refine zg_iload hX dMo_finish_100 rfl ?_
      refine zg_icmp_ne (tgt := 111) hX dMo_finish_102 rfl h (fun h => ?_) (fun h => ?_)
      · refine zg_iinc hX dMo_finish_105 (-1 : Int32) rfl (by decide) (Nat.le_of_ble_eq_true rfl) rfl h (fun y105 h => ?_)
        refine zg_goto (tgt := 87) hX dMo_finish_108 rfl ?_
        exact zg_sub (zl_k (zl_k (zl_d (zl_k (zl_k (zl_k (zl_k (zl_d (zl_d zl_n))))))))) (ih w97 a0 x1 y105 x4 x5 x6 h)
      · exact zg_sub (zl_k (zl_k (zl_d (zl_k (zl_k (zl_k (zl_d (zl_d (zl_d zl_n))))))))) (zm_Mo_finish_j111 hX hr hm w97 a0 x1 x3 x4 x5 h)
set_option maxHeartbeats 4000000 in
set_option maxRecDepth 100000 in
theorem zm_Mo_finish_j85 {X : zg_X} {D : va_G} {G : zw_G} {A : Nat → Prop} {F : Nat} {r : zw_T} (hX : zg_ok X cMo_finish RMo 9 2 46 128 0 D G A) (hr : zg_rt X = none) (hm : zg_nm X = yMo_finish.name) (w : zw_T) (a0 : Nat) (x1 : Int32) (x3 : Int32) (x4 : Int32) (x5 : Int32) (s0 : Int32) (h : zf_Mo_finish_j85 F w a0 x1 x3 x4 x5 s0 = some r) : zg X D G A (zg_Q X D G A 128 0 (zr_v r)) 128 0 w 85 [some (va_rf (some a0)), some (.int x1), none, some (.int x3), some (.int x4), some (.int x5), none, none, none] [.int s0] := by
  unfold zf_Mo_finish_j85 at h
  refine zg_istore hX dMo_finish_85 (Nat.le_of_ble_eq_true rfl) rfl h (fun y85 h => ?_)
  exact zg_sub (zl_k (zl_k (zl_d (zl_k (zl_k (zl_k (zl_k (zl_d (zl_d zl_n))))))))) (zm_Mo_finish_L87 hX hr hm F w a0 x1 x3 x4 x5 y85 h)
set_option maxHeartbeats 4000000 in
set_option maxRecDepth 100000 in
theorem zm_Mo_finish_j46 {X : zg_X} {D : va_G} {G : zw_G} {A : Nat → Prop} {F : Nat} {r : zw_T} (hX : zg_ok X cMo_finish RMo 9 2 46 128 0 D G A) (hr : zg_rt X = none) (hm : zg_nm X = yMo_finish.name) (w : zw_T) (a0 : Nat) (x1 : Int32) (s0 : Int32) (h : zf_Mo_finish_j46 F w a0 x1 s0 = some r) : zg X D G A (zg_Q X D G A 128 0 (zr_v r)) 128 0 w 46 [some (va_rf (some a0)), some (.int x1), none, none, none, none, none, none, none] [.int s0] := by
  unfold zf_Mo_finish_j46 at h
  refine zg_istore_n hX dMo_finish_46 (Nat.le_of_ble_eq_true rfl) rfl h (fun y46 h => ?_)
  refine zg_aload_n (x := (some a0)) hX dMo_finish_47 rfl ?_
  refine zg_iload_n hX dMo_finish_48 rfl ?_
  obtain ⟨a49, e49, t49, h⟩ := zf_at_e h
  obtain ⟨v49, w49, q49, h⟩ := zf_bd_e h
  refine zg_callV_i (mcy := 0) (v := v49) (w1 := w49) (st := []) hc_9 (by decide) e49 t49 [.int y46] (fun l => zm_Mo_numberOf l D G A F w a49 y46 (v49, w49) q49) (zt_V zx_872 zx_874 zs_34 zx_5 zx_875) rfl hd_Mo_numberOf (by decide) (by decide) (by decide) (Nat.le_of_ble_eq_true rfl) rfl rfl hX dMo_finish_49 ?_
  refine zg_istore hX dMo_finish_52 (Nat.le_of_ble_eq_true rfl) rfl h (fun y52 h => ?_)
  refine zg_iconst hX dMo_finish_54 (2 : Int32) (by decide) ?_
  refine zg_aload_n (x := (some a0)) hX dMo_finish_55 rfl ?_
  refine zg_getR (ci := 9) (k := 2) hc_9 (by decide) (by decide) hin_9 zx_624 ft_9_2 hX dMo_finish_56 h (fun a56 h => ?_)
  refine zg_aload_n (x := (some a0)) hX dMo_finish_59 rfl ?_
  refine zg_getI (ci := 9) (k := 32) hc_9 (by decide) (by decide) hin_9 zx_652 ft_9_32 hX dMo_finish_60 h (fun a60 h => ?_)
  refine zg_iald (kd := 121) (by decide) (by decide) hX dMo_finish_63 h (fun a63 j63 h => ?_)
  refine zg_isub hX dMo_finish_64 ?_
  refine zg_istore hX dMo_finish_65 (Nat.le_of_ble_eq_true rfl) rfl h (fun y65 h => ?_)
  refine zg_aload_n (x := (some a0)) hX dMo_finish_67 rfl ?_
  refine zg_getR (ci := 9) (k := 2) hc_9 (by decide) (by decide) hin_9 zx_624 ft_9_2 hX dMo_finish_68 h (fun a68 h => ?_)
  refine zg_aload_n (x := (some a0)) hX dMo_finish_71 rfl ?_
  refine zg_getI (ci := 9) (k := 32) hc_9 (by decide) (by decide) hin_9 zx_652 ft_9_32 hX dMo_finish_72 h (fun a72 h => ?_)
  refine zg_iald (kd := 121) (by decide) (by decide) hX dMo_finish_75 h (fun a75 j75 h => ?_)
  refine zg_if_ne (tgt := 84) hX dMo_finish_76 rfl h (fun h => ?_) (fun h => ?_)
  · refine zg_bipush hX dMo_finish_79 (12 : Int32) (by decide) ?_
    refine zg_goto (tgt := 85) hX dMo_finish_81 rfl ?_
    exact zg_sub (zl_k (zl_k (zl_d (zl_k (zl_k (zl_k (zl_d (zl_d (zl_d zl_n))))))))) (zm_Mo_finish_j85 hX hr hm w49 a0 x1 y46 y52 y65 (12 : Int32) h)
  · refine zg_iconst hX dMo_finish_84 (0 : Int32) (by decide) ?_
    exact zg_sub (zl_k (zl_k (zl_d (zl_k (zl_k (zl_k (zl_d (zl_d (zl_d zl_n))))))))) (zm_Mo_finish_j85 hX hr hm w49 a0 x1 y46 y52 y65 (0 : Int32) h)
set_option maxHeartbeats 4000000 in
set_option maxRecDepth 100000 in
theorem zm_Mo_finish_j26 {X : zg_X} {D : va_G} {G : zw_G} {A : Nat → Prop} {F : Nat} {r : zw_T} (hX : zg_ok X cMo_finish RMo 9 2 46 128 0 D G A) (hr : zg_rt X = none) (hm : zg_nm X = yMo_finish.name) (w : zw_T) (a0 : Nat) (x1 : Int32) (s0 : Int32) (h : zf_Mo_finish_j26 F w a0 x1 s0 = some r) : zg X D G A (zg_Q X D G A 128 0 (zr_v r)) 128 0 w 26 [some (va_rf (some a0)), some (.int x1), none, none, none, none, none, none, none] [.int s0] := by
  unfold zf_Mo_finish_j26 at h
  refine zg_istore_n hX dMo_finish_26 (Nat.le_of_ble_eq_true rfl) rfl h (fun y26 h => ?_)
  refine zg_aload_n (x := (some a0)) hX dMo_finish_27 rfl ?_
  refine zg_getI (ci := 9) (k := 34) hc_9 (by decide) (by decide) hin_9 zx_654 ft_9_34 hX dMo_finish_28 h (fun a28 h => ?_)
  refine zg_iload_n hX dMo_finish_31 rfl ?_
  obtain ⟨hz32, h⟩ := zf_nz_e h
  refine zg_idiv hX dMo_finish_32 hz32 ?_
  refine zg_istore_n hX dMo_finish_33 (Nat.le_of_ble_eq_true rfl) rfl h (fun y33 h => ?_)
  refine zg_iload_n hX dMo_finish_34 rfl ?_
  refine zg_bipush hX dMo_finish_35 (22 : Int32) (by decide) ?_
  refine zg_icmp_le (tgt := 45) hX dMo_finish_37 rfl h (fun h => ?_) (fun h => ?_)
  · refine zg_iload_n hX dMo_finish_45 rfl ?_
    exact zg_sub (zl_k (zl_k (zl_d (zl_d (zl_d (zl_d (zl_d (zl_d (zl_d zl_n))))))))) (zm_Mo_finish_j46 hX hr hm w a0 x1 y33 h)
  · refine zg_bipush hX dMo_finish_40 (22 : Int32) (by decide) ?_
    refine zg_goto (tgt := 46) hX dMo_finish_42 rfl ?_
    exact zg_sub (zl_k (zl_k (zl_d (zl_d (zl_d (zl_d (zl_d (zl_d (zl_d zl_n))))))))) (zm_Mo_finish_j46 hX hr hm w a0 x1 (22 : Int32) h)
set_option maxHeartbeats 4000000 in
set_option maxRecDepth 100000 in
theorem zm_Mo_finish (l : Launch) (D : va_G) (G : zw_G) (A : Nat → Prop) (F : Nat) (w : zw_T) (a0 : Nat) (x1 : Int32) (r : zw_T) (h : zf_Mo_finish F w a0 x1 = some r) : zc l yMo_finish wsMo_finish 2 46 128 0 D G A [.ref a0, .int x1] w (zr_v r) := by
  refine zc_of (ret := none) [some (va_rf (some a0)), some (.int x1), none, none, none, none, none, none, none] (plainFor_of_name (by decide +kernel)) rfl (Nat.le_of_ble_eq_true rfl) rfl rfl (fun X hX hr hm => ?_)
  unfold zf_Mo_finish at h
  refine zg_aload_n (x := (some a0)) hX dMo_finish_0 rfl ?_
  refine zg_getI (ci := 9) (k := 32) hc_9 (by decide) (by decide) hin_9 zx_652 ft_9_32 hX dMo_finish_1 h (fun a1 h => ?_)
  refine zg_if_ge (tgt := 8) hX dMo_finish_4 rfl h (fun h => ?_) (fun h => ?_)
  · refine zg_aload_n (x := (some a0)) hX dMo_finish_8 rfl ?_
    refine zg_getR (ci := 9) (k := 2) hc_9 (by decide) (by decide) hin_9 zx_624 ft_9_2 hX dMo_finish_9 h (fun a9 h => ?_)
    refine zg_aload_n (x := (some a0)) hX dMo_finish_12 rfl ?_
    refine zg_getI (ci := 9) (k := 32) hc_9 (by decide) (by decide) hin_9 zx_652 ft_9_32 hX dMo_finish_13 h (fun a13 h => ?_)
    refine zg_iald (kd := 121) (by decide) (by decide) hX dMo_finish_16 h (fun a16 j16 h => ?_)
    refine zg_if_ne (tgt := 24) hX dMo_finish_17 rfl h (fun h => ?_) (fun h => ?_)
    · refine zg_iconst hX dMo_finish_20 (4 : Int32) (by decide) ?_
      refine zg_goto (tgt := 26) hX dMo_finish_21 rfl ?_
      exact zg_sub (zl_k (zl_k (zl_d (zl_d (zl_d (zl_d (zl_d (zl_d (zl_d zl_n))))))))) (zm_Mo_finish_j26 hX hr hm w a0 x1 (4 : Int32) h)
    · refine zg_bipush hX dMo_finish_24 (7 : Int32) (by decide) ?_
      exact zg_sub (zl_k (zl_k (zl_d (zl_d (zl_d (zl_d (zl_d (zl_d (zl_d zl_n))))))))) (zm_Mo_finish_j26 hX hr hm w a0 x1 (7 : Int32) h)
  · cases h
    exact zg_vret hX hr (by decide) dMo_finish_7
def zf_Mo_onesOf_L4 (F : Nat) : Nat → zw_T → Int32 → Int32 → Int32 → Option (Int32 × zw_T)
  | 0, _, _, _, _ => none
  | n + 1, w, x0, x1, x2 =>
  if (32 : Int32) ≤ x2 then (
  some (x1, w))
  else (
  zf_let (x1 + ((zi_shr x0 x2) &&& (1 : Int32))) fun y17 =>
  zf_let (x2 + (1 : Int32)) fun y18 =>
  zf_Mo_onesOf_L4 F n w x0 y17 y18)
def zf_Mo_onesOf (F : Nat) (w : zw_T) (x0 : Int32) : Option (Int32 × zw_T) :=
  zf_let (0 : Int32) fun y1 =>
  zf_let (0 : Int32) fun y3 =>
  zf_Mo_onesOf_L4 F F w x0 y1 y3
set_option maxHeartbeats 4000000 in
set_option maxRecDepth 100000 in
theorem zm_Mo_onesOf_L4 {X : zg_X} {D : va_G} {G : zw_G} {A : Nat → Prop} {F : Nat} {r : Int32 × zw_T} (hX : zg_ok X cMo_onesOf RMo 3 0 0 128 0 D G A) (hr : zg_rt X = some .int) (hm : zg_nm X = yMo_onesOf.name) : ∀ (n : Nat) (w : zw_T) (x0 : Int32) (x1 : Int32) (x2 : Int32), zf_Mo_onesOf_L4 F n w x0 x1 x2 = some r → zg X D G A (zg_Q X D G A 128 0 (zr_i r)) 128 0 w 4 [some (.int x0), some (.int x1), some (.int x2)] [] := by
  intro n
  induction n with
  | zero =>
    intro w x0 x1 x2 h
    unfold zf_Mo_onesOf_L4 at h
    cases h
  | succ n ih =>
    intro w x0 x1 x2 h
    rw [zf_Mo_onesOf_L4] at h
    refine zg_iload_n hX dMo_onesOf_4 rfl ?_
    refine zg_bipush hX dMo_onesOf_5 (32 : Int32) (by decide) ?_
    refine zg_icmp_ge (tgt := 24) hX dMo_onesOf_7 rfl h (fun h => ?_) (fun h => ?_)
    · refine zg_iload_n hX dMo_onesOf_24 rfl ?_
      cases h
      exact zg_iret hX hr (by decide) dMo_onesOf_25
    · refine zg_iload_n hX dMo_onesOf_10 rfl ?_
      refine zg_iload_n hX dMo_onesOf_11 rfl ?_
      refine zg_iload_n hX dMo_onesOf_12 rfl ?_
      refine zg_ishr hX dMo_onesOf_13 ?_
      refine zg_iconst hX dMo_onesOf_14 (1 : Int32) (by decide) ?_
      refine zg_iand hX dMo_onesOf_15 ?_
      refine zg_iadd hX dMo_onesOf_16 ?_
      refine zg_istore_n hX dMo_onesOf_17 (Nat.le_of_ble_eq_true rfl) rfl h (fun y17 h => ?_)
      refine zg_iinc hX dMo_onesOf_18 (1 : Int32) rfl (by decide) (Nat.le_of_ble_eq_true rfl) rfl h (fun y18 h => ?_)
      refine zg_goto (tgt := 4) hX dMo_onesOf_21 rfl ?_
      exact zg_sub (zl_k (zl_k (zl_k zl_n))) (ih w x0 y17 y18 h)
set_option maxHeartbeats 4000000 in
set_option maxRecDepth 100000 in
theorem zm_Mo_onesOf (l : Launch) (D : va_G) (G : zw_G) (A : Nat → Prop) (F : Nat) (w : zw_T) (x0 : Int32) (r : Int32 × zw_T) (h : zf_Mo_onesOf F w x0 = some r) : zc l yMo_onesOf wsMo_onesOf 0 0 128 0 D G A [.int x0] w (zr_i r) := by
  refine zc_of (ret := some .int) [some (.int x0), none, none] (plainFor_of_name (by decide +kernel)) rfl (Nat.le_of_ble_eq_true rfl) rfl rfl (fun X hX hr hm => ?_)
  unfold zf_Mo_onesOf at h
  refine zg_iconst hX dMo_onesOf_0 (0 : Int32) (by decide) ?_
  refine zg_istore_n hX dMo_onesOf_1 (Nat.le_of_ble_eq_true rfl) rfl h (fun y1 h => ?_)
  refine zg_iconst hX dMo_onesOf_2 (0 : Int32) (by decide) ?_
  refine zg_istore_n hX dMo_onesOf_3 (Nat.le_of_ble_eq_true rfl) rfl h (fun y3 h => ?_)
  exact zg_sub (zl_k (zl_k (zl_k zl_n))) (zm_Mo_onesOf_L4 hX hr hm F w x0 y1 y3 h)
def zf_Mo_identityOf_j76 (F : Nat) (k10 : zw_T → Nat → Int32 → Int32 → Int32 → Int32 → Option (Int32 × zw_T)) (w : zw_T) (a0 : Nat) (x1 : Int32) (x2 : Int32) (x4 : Int32) (s0 : Int32) : Option (Int32 × zw_T) :=
  zf_let s0 fun y76 =>
  zf_let (x4 + (1 : Int32)) fun y77 =>
  k10 w a0 x1 x2 y76 y77
def zf_Mo_identityOf_j75 (F : Nat) (k10 : zw_T → Nat → Int32 → Int32 → Int32 → Int32 → Option (Int32 × zw_T)) (w : zw_T) (a0 : Nat) (x1 : Int32) (x2 : Int32) (x3 : Int32) (x4 : Int32) : Option (Int32 × zw_T) :=
  zf_Mo_identityOf_j76 F k10 w a0 x1 x2 x4 x3
def zf_Mo_identityOf_L10 (F : Nat) : Nat → zw_T → Nat → Int32 → Int32 → Int32 → Int32 → Option (Int32 × zw_T)
  | 0, _, _, _, _, _, _ => none
  | n + 1, w, a0, x1, x2, x3, x4 =>
  zf_at w 10 (some a0) fun a14 =>
  zf_at w 10 (some a0) fun a19 =>
  zf_at w 10 (some a0) fun a23 =>
  zf_ix w 132 (zw_R w 1597 a19 0) (zw_I w 1607 a23 0) fun a26 j26 =>
  if (((4 : Int32) * (zw_I w 1607 a14 0)) + (zw_I w 132 a26 j26)) ≤ x4 then (
  some (x3, w))
  else (
  zf_at w 10 (some a0) fun a33 =>
  zf_ix w 131 (zw_R w 1596 a33 0) x4 fun a38 j38 =>
  zf_at w 10 (some a0) fun a39 =>
  zf_bd (zf_Mo_addressData F w a39 (zw_I w 131 a38 j38)) fun v39 w39 =>
  if v39 = x1 then (
  zf_at w39 10 (some a0) fun a47 =>
  zf_at w39 10 (some a0) fun a51 =>
  zf_ix w39 131 (zw_R w39 1596 a51 0) x4 fun a56 j56 =>
  zf_ix w39 120 (zw_R w39 1577 a47 0) (zw_I w39 131 a56 j56) fun a57 j57 =>
  if (zi_rem (zw_I w39 120 a57 j57) (8 : Int32)) = x2 then (
  zf_at w39 10 (some a0) fun a66 =>
  zf_ix w39 131 (zw_R w39 1596 a66 0) x4 fun a71 j71 =>
  zf_Mo_identityOf_j76 F (zf_Mo_identityOf_L10 F n) w39 a0 x1 x2 x4 (zw_I w39 131 a71 j71))
  else (
  zf_Mo_identityOf_j75 F (zf_Mo_identityOf_L10 F n) w39 a0 x1 x2 x3 x4))
  else (
  zf_Mo_identityOf_j75 F (zf_Mo_identityOf_L10 F n) w39 a0 x1 x2 x3 x4))
def zf_Mo_identityOf (F : Nat) (w : zw_T) (a0 : Nat) (x1 : Int32) (x2 : Int32) : Option (Int32 × zw_T) :=
  zf_let (-1 : Int32) fun y1 =>
  zf_at w 10 (some a0) fun a4 =>
  zf_let ((4 : Int32) * (zw_I w 1607 a4 0)) fun y8 =>
  zf_Mo_identityOf_L10 F F w a0 x1 x2 y1 y8
set_option maxHeartbeats 4000000 in
set_option maxRecDepth 100000 in
theorem zm_Mo_identityOf_j76 {X : zg_X} {D : va_G} {G : zw_G} {A : Nat → Prop} {F : Nat} {k10 : zw_T → Nat → Int32 → Int32 → Int32 → Int32 → Option (Int32 × zw_T)} {r : Int32 × zw_T} (hX : zg_ok X cMo_identityOf RMo 5 1 21 128 0 D G A) (hr : zg_rt X = some .int) (hm : zg_nm X = yMo_identityOf.name) (hk10 : ∀ (w : zw_T) (a0 : Nat) (x1 : Int32) (x2 : Int32) (x3 : Int32) (x4 : Int32), k10 w a0 x1 x2 x3 x4 = some r → zg X D G A (zg_Q X D G A 128 0 (zr_i r)) 128 0 w 10 [some (va_rf (some a0)), some (.int x1), some (.int x2), some (.int x3), some (.int x4)] []) (w : zw_T) (a0 : Nat) (x1 : Int32) (x2 : Int32) (x4 : Int32) (s0 : Int32) (h : zf_Mo_identityOf_j76 F k10 w a0 x1 x2 x4 s0 = some r) : zg X D G A (zg_Q X D G A 128 0 (zr_i r)) 128 0 w 76 [some (va_rf (some a0)), some (.int x1), some (.int x2), none, some (.int x4)] [.int s0] := by
  unfold zf_Mo_identityOf_j76 at h
  refine zg_istore_n hX dMo_identityOf_76 (Nat.le_of_ble_eq_true rfl) rfl h (fun y76 h => ?_)
  refine zg_iinc hX dMo_identityOf_77 (1 : Int32) rfl (by decide) (Nat.le_of_ble_eq_true rfl) rfl h (fun y77 h => ?_)
  refine zg_goto (tgt := 10) hX dMo_identityOf_80 rfl ?_
  exact zg_sub (zl_k (zl_k (zl_k (zl_k (zl_k zl_n))))) (hk10 w a0 x1 x2 y76 y77 h)
set_option maxHeartbeats 4000000 in
set_option maxRecDepth 100000 in
theorem zm_Mo_identityOf_j75 {X : zg_X} {D : va_G} {G : zw_G} {A : Nat → Prop} {F : Nat} {k10 : zw_T → Nat → Int32 → Int32 → Int32 → Int32 → Option (Int32 × zw_T)} {r : Int32 × zw_T} (hX : zg_ok X cMo_identityOf RMo 5 1 21 128 0 D G A) (hr : zg_rt X = some .int) (hm : zg_nm X = yMo_identityOf.name) (hk10 : ∀ (w : zw_T) (a0 : Nat) (x1 : Int32) (x2 : Int32) (x3 : Int32) (x4 : Int32), k10 w a0 x1 x2 x3 x4 = some r → zg X D G A (zg_Q X D G A 128 0 (zr_i r)) 128 0 w 10 [some (va_rf (some a0)), some (.int x1), some (.int x2), some (.int x3), some (.int x4)] []) (w : zw_T) (a0 : Nat) (x1 : Int32) (x2 : Int32) (x3 : Int32) (x4 : Int32) (h : zf_Mo_identityOf_j75 F k10 w a0 x1 x2 x3 x4 = some r) : zg X D G A (zg_Q X D G A 128 0 (zr_i r)) 128 0 w 75 [some (va_rf (some a0)), some (.int x1), some (.int x2), some (.int x3), some (.int x4)] [] := by
  unfold zf_Mo_identityOf_j75 at h
  refine zg_iload_n hX dMo_identityOf_75 rfl ?_
  exact zg_sub (zl_k (zl_k (zl_k (zl_d (zl_k zl_n))))) (zm_Mo_identityOf_j76 hX hr hm hk10 w a0 x1 x2 x4 x3 h)
set_option maxHeartbeats 4000000 in
set_option maxRecDepth 100000 in
theorem zm_Mo_identityOf_L10 {X : zg_X} {D : va_G} {G : zw_G} {A : Nat → Prop} {F : Nat} {r : Int32 × zw_T} (hX : zg_ok X cMo_identityOf RMo 5 1 21 128 0 D G A) (hr : zg_rt X = some .int) (hm : zg_nm X = yMo_identityOf.name) : ∀ (n : Nat) (w : zw_T) (a0 : Nat) (x1 : Int32) (x2 : Int32) (x3 : Int32) (x4 : Int32), zf_Mo_identityOf_L10 F n w a0 x1 x2 x3 x4 = some r → zg X D G A (zg_Q X D G A 128 0 (zr_i r)) 128 0 w 10 [some (va_rf (some a0)), some (.int x1), some (.int x2), some (.int x3), some (.int x4)] [] := by
  intro n
  induction n with
  | zero =>
    intro w a0 x1 x2 x3 x4 h
    unfold zf_Mo_identityOf_L10 at h
    cases h
  | succ n ih =>
    intro w a0 x1 x2 x3 x4 h
    rw [zf_Mo_identityOf_L10] at h
    refine zg_iload hX dMo_identityOf_10 rfl ?_
    refine zg_iconst hX dMo_identityOf_12 (4 : Int32) (by decide) ?_
    refine zg_aload_n (x := (some a0)) hX dMo_identityOf_13 rfl ?_
    refine zg_getI (ci := 9) (k := 31) hc_9 (by decide) (by decide) hin_9 zx_651 ft_9_31 hX dMo_identityOf_14 h (fun a14 h => ?_)
    refine zg_imul hX dMo_identityOf_17 ?_
    refine zg_aload_n (x := (some a0)) hX dMo_identityOf_18 rfl ?_
    refine zg_getR (ci := 9) (k := 21) hc_9 (by decide) (by decide) hin_9 zx_641 ft_9_21 hX dMo_identityOf_19 h (fun a19 h => ?_)
    refine zg_aload_n (x := (some a0)) hX dMo_identityOf_22 rfl ?_
    refine zg_getI (ci := 9) (k := 31) hc_9 (by decide) (by decide) hin_9 zx_651 ft_9_31 hX dMo_identityOf_23 h (fun a23 h => ?_)
    refine zg_iald (kd := 132) (by decide) (by decide) hX dMo_identityOf_26 h (fun a26 j26 h => ?_)
    refine zg_iadd hX dMo_identityOf_27 ?_
    refine zg_icmp_ge (tgt := 83) hX dMo_identityOf_28 rfl h (fun h => ?_) (fun h => ?_)
    · refine zg_iload_n hX dMo_identityOf_83 rfl ?_
      cases h
      exact zg_iret hX hr (by decide) dMo_identityOf_84
    · refine zg_aload_n (x := (some a0)) hX dMo_identityOf_31 rfl ?_
      refine zg_aload_n (x := (some a0)) hX dMo_identityOf_32 rfl ?_
      refine zg_getR (ci := 9) (k := 20) hc_9 (by decide) (by decide) hin_9 zx_640 ft_9_20 hX dMo_identityOf_33 h (fun a33 h => ?_)
      refine zg_iload hX dMo_identityOf_36 rfl ?_
      refine zg_iald (kd := 131) (by decide) (by decide) hX dMo_identityOf_38 h (fun a38 j38 h => ?_)
      obtain ⟨a39, e39, t39, h⟩ := zf_at_e h
      obtain ⟨v39, w39, q39, h⟩ := zf_bd_e h
      refine zg_callV_i (mcy := 0) (v := v39) (w1 := w39) (st := []) hc_9 (by decide) e39 t39 [.int (zw_I w 131 a38 j38)] (fun l => zm_Mo_addressData l D G A F w a39 (zw_I w 131 a38 j38) (v39, w39) q39) (zt_V zx_814 zx_816 zs_24 zx_5 zx_817) rfl hd_Mo_addressData (by decide) (by decide) (by decide) (Nat.le_of_ble_eq_true rfl) rfl rfl hX dMo_identityOf_39 ?_
      refine zg_iload_n hX dMo_identityOf_42 rfl ?_
      refine zg_icmp_ne (tgt := 75) hX dMo_identityOf_43 rfl h (fun h => ?_) (fun h => ?_)
      · refine zg_aload_n (x := (some a0)) hX dMo_identityOf_46 rfl ?_
        refine zg_getR (ci := 9) (k := 1) hc_9 (by decide) (by decide) hin_9 zx_623 ft_9_1 hX dMo_identityOf_47 h (fun a47 h => ?_)
        refine zg_aload_n (x := (some a0)) hX dMo_identityOf_50 rfl ?_
        refine zg_getR (ci := 9) (k := 20) hc_9 (by decide) (by decide) hin_9 zx_640 ft_9_20 hX dMo_identityOf_51 h (fun a51 h => ?_)
        refine zg_iload hX dMo_identityOf_54 rfl ?_
        refine zg_iald (kd := 131) (by decide) (by decide) hX dMo_identityOf_56 h (fun a56 j56 h => ?_)
        refine zg_iald (kd := 120) (by decide) (by decide) hX dMo_identityOf_57 h (fun a57 j57 h => ?_)
        refine zg_bipush hX dMo_identityOf_58 (8 : Int32) (by decide) ?_
        refine zg_irem hX dMo_identityOf_60 (by decide) ?_
        refine zg_iload_n hX dMo_identityOf_61 rfl ?_
        refine zg_icmp_ne (tgt := 75) hX dMo_identityOf_62 rfl h (fun h => ?_) (fun h => ?_)
        · refine zg_aload_n (x := (some a0)) hX dMo_identityOf_65 rfl ?_
          refine zg_getR (ci := 9) (k := 20) hc_9 (by decide) (by decide) hin_9 zx_640 ft_9_20 hX dMo_identityOf_66 h (fun a66 h => ?_)
          refine zg_iload hX dMo_identityOf_69 rfl ?_
          refine zg_iald (kd := 131) (by decide) (by decide) hX dMo_identityOf_71 h (fun a71 j71 h => ?_)
          refine zg_goto (tgt := 76) hX dMo_identityOf_72 rfl ?_
          exact zg_sub (zl_k (zl_k (zl_k (zl_d (zl_k zl_n))))) (zm_Mo_identityOf_j76 hX hr hm ih w39 a0 x1 x2 x4 (zw_I w39 131 a71 j71) h)
        · exact zg_sub (zl_k (zl_k (zl_k (zl_k (zl_k zl_n))))) (zm_Mo_identityOf_j75 hX hr hm ih w39 a0 x1 x2 x3 x4 h)
      · exact zg_sub (zl_k (zl_k (zl_k (zl_k (zl_k zl_n))))) (zm_Mo_identityOf_j75 hX hr hm ih w39 a0 x1 x2 x3 x4 h)
set_option maxHeartbeats 4000000 in
set_option maxRecDepth 100000 in
theorem zm_Mo_identityOf (l : Launch) (D : va_G) (G : zw_G) (A : Nat → Prop) (F : Nat) (w : zw_T) (a0 : Nat) (x1 : Int32) (x2 : Int32) (r : Int32 × zw_T) (h : zf_Mo_identityOf F w a0 x1 x2 = some r) : zc l yMo_identityOf wsMo_identityOf 1 21 128 0 D G A [.ref a0, .int x1, .int x2] w (zr_i r) := by
  refine zc_of (ret := some .int) [some (va_rf (some a0)), some (.int x1), some (.int x2), none, none] (plainFor_of_name (by decide +kernel)) rfl (Nat.le_of_ble_eq_true rfl) rfl rfl (fun X hX hr hm => ?_)
  unfold zf_Mo_identityOf at h
  refine zg_iconst hX dMo_identityOf_0 (-1 : Int32) (by decide) ?_
  refine zg_istore_n hX dMo_identityOf_1 (Nat.le_of_ble_eq_true rfl) rfl h (fun y1 h => ?_)
  refine zg_iconst hX dMo_identityOf_2 (4 : Int32) (by decide) ?_
  refine zg_aload_n (x := (some a0)) hX dMo_identityOf_3 rfl ?_
  refine zg_getI (ci := 9) (k := 31) hc_9 (by decide) (by decide) hin_9 zx_651 ft_9_31 hX dMo_identityOf_4 h (fun a4 h => ?_)
  refine zg_imul hX dMo_identityOf_7 ?_
  refine zg_istore hX dMo_identityOf_8 (Nat.le_of_ble_eq_true rfl) rfl h (fun y8 h => ?_)
  exact zg_sub (zl_k (zl_k (zl_k (zl_k (zl_k zl_n))))) (zm_Mo_identityOf_L10 hX hr hm F w a0 x1 x2 y1 y8 h)
def zf_Mo_look_j88 (F : Nat) (w : zw_T) (a0 : Nat) (x2 : Int32) (x3 : Int32) : Option (zw_T) :=
  zf_at w 10 (some a0) fun a90 =>
  zf_bv (zf_Mo_finish F w a90 (0 : Int32)) fun w90 =>
  zf_at w90 10 (some a0) fun a97 =>
  zf_bd (zf_Mo_identityOf F w90 a97 x3 x2) fun v97 w97 =>
  zf_at w97 10 (some a0) fun a100 => zf_let (zw_sI w97 1608 a100 0 v97) fun w100 =>
  zf_at w100 10 (some a0) fun a105 => zf_let (zw_sI w100 1610 a105 0 (0 : Int32)) fun w105 =>
  some w105
def zf_Mo_look (F : Nat) (w : zw_T) (a0 : Nat) (x1 : Int32) (x2 : Int32) : Option (zw_T) :=
  zf_at w 10 (some a0) fun a2 =>
  zf_bd (zf_Mo_repair F w a2 x1) fun v2 w2 =>
  zf_let v2 fun y5 =>
  if 0 ≤ y5 then (
  zf_at w2 10 (some a0) fun a34 =>
  zf_at w2 10 (some a0) fun a39 =>
  zf_at w2 10 (some a0) fun a46 =>
  zf_at w2 10 (some a0) fun a51 =>
  zf_ix w2 139 (zw_R w2 1606 a46 0) (((4 : Int32) * (zw_I w2 1607 a51 0)) + (1 : Int32)) fun a57 j57 =>
  zf_bd (zf_Mo_codeword F w2 y5) fun v59 w59 =>
  zf_bd (zf_Mo_onesOf F w59 (v59 ^^^ x1)) fun v64 w64 =>
  zf_ix w64 139 (zw_R w2 1606 a34 0) (((4 : Int32) * (zw_I w2 1607 a39 0)) + (1 : Int32)) fun a68 j68 => zf_let (zw_sI w64 139 a68 j68 ((zw_I w2 139 a57 j57) + v64)) fun w68 =>
  zf_at w68 10 (some a0) fun a70 =>
  if (zw_I w68 1608 a70 0) < 0 then (
  zf_Mo_look_j88 F w68 a0 x2 y5)
  else (
  if y5 < (1048576 : Int32) then (
  zf_Mo_look_j88 F w68 a0 x2 y5)
  else (
  zf_at w68 10 (some a0) fun a84 =>
  zf_bv (zf_Mo_add F w68 a84 y5) fun w84 =>
  some w84)))
  else (
  zf_at w2 10 (some a0) fun a11 =>
  zf_at w2 10 (some a0) fun a16 =>
  zf_ix w2 139 (zw_R w2 1606 a11 0) (((4 : Int32) * (zw_I w2 1607 a16 0)) + (2 : Int32)) fun a23 j23 =>
  zf_ix w2 139 (zw_R w2 1606 a11 0) (((4 : Int32) * (zw_I w2 1607 a16 0)) + (2 : Int32)) fun a26 j26 => zf_let (zw_sI w2 139 a26 j26 ((zw_I w2 139 a23 j23) + (1 : Int32))) fun w26 =>
  zf_at w26 10 (some a0) fun a29 =>
  zf_bv (zf_Mo_finish F w26 a29 (1 : Int32)) fun w29 =>
  some w29)
set_option maxHeartbeats 4000000 in
set_option maxRecDepth 100000 in
theorem zm_Mo_look_j88 {X : zg_X} {D : va_G} {G : zw_G} {A : Nat → Prop} {F : Nat} {r : zw_T} (hX : zg_ok X cMo_look RMo 4 3 74 128 0 D G A) (hr : zg_rt X = none) (hm : zg_nm X = yMo_look.name) (w : zw_T) (a0 : Nat) (x2 : Int32) (x3 : Int32) (h : zf_Mo_look_j88 F w a0 x2 x3 = some r) : zg X D G A (zg_Q X D G A 128 0 (zr_v r)) 128 0 w 88 [some (va_rf (some a0)), none, some (.int x2), some (.int x3)] [] := by
  unfold zf_Mo_look_j88 at h
  refine zg_aload_n (x := (some a0)) hX dMo_look_88 rfl ?_
  refine zg_iconst hX dMo_look_89 (0 : Int32) (by decide) ?_
  obtain ⟨a90, e90, t90, h⟩ := zf_at_e h
  obtain ⟨w90, q90, h⟩ := zf_bv_e h
  refine zg_callV_v (mcy := 0) (w1 := w90) (st := []) hc_9 (by decide) e90 t90 [.int (0 : Int32)] (fun l => zm_Mo_finish l D G A F w a90 (0 : Int32) w90 q90) (zt_V zx_868 zx_870 zs_33 zx_5 zx_871) rfl hd_Mo_finish (by decide) (by decide) (by decide) (Nat.le_of_ble_eq_true rfl) rfl rfl hX dMo_look_90 ?_
  refine zg_aload_n (x := (some a0)) hX dMo_look_93 rfl ?_
  refine zg_aload_n (x := (some a0)) hX dMo_look_94 rfl ?_
  refine zg_iload_n hX dMo_look_95 rfl ?_
  refine zg_iload_n hX dMo_look_96 rfl ?_
  obtain ⟨a97, e97, t97, h⟩ := zf_at_e h
  obtain ⟨v97, w97, q97, h⟩ := zf_bd_e h
  refine zg_callV_i (mcy := 0) (v := v97) (w1 := w97) (st := [va_rf (some a0)]) hc_9 (by decide) e97 t97 [.int x3, .int x2] (fun l => zm_Mo_identityOf l D G A F w90 a97 x3 x2 (v97, w97) q97) (zt_V zx_894 zx_896 zs_39 zx_5 zx_897) rfl hd_Mo_identityOf (by decide) (by decide) (by decide) (Nat.le_of_ble_eq_true rfl) rfl rfl hX dMo_look_97 ?_
  refine zg_putI (ci := 9) (k := 32) hc_9 (by decide) (by decide) hin_9 zx_652 ft_9_32 tyMo okMo nmMo rfl (vp_nar_int _) rfl hX dMo_look_100 h (fun w100 h => ?_)
  refine zg_aload_n (x := (some a0)) hX dMo_look_103 rfl ?_
  refine zg_iconst hX dMo_look_104 (0 : Int32) (by decide) ?_
  refine zg_putI (ci := 9) (k := 34) hc_9 (by decide) (by decide) hin_9 zx_654 ft_9_34 tyMo okMo nmMo rfl (vp_nar_int _) rfl hX dMo_look_105 h (fun w105 h => ?_)
  cases h
  exact zg_vret hX hr (by decide) dMo_look_108
set_option maxHeartbeats 4000000 in
set_option maxRecDepth 100000 in
theorem zm_Mo_look (l : Launch) (D : va_G) (G : zw_G) (A : Nat → Prop) (F : Nat) (w : zw_T) (a0 : Nat) (x1 : Int32) (x2 : Int32) (r : zw_T) (h : zf_Mo_look F w a0 x1 x2 = some r) : zc l yMo_look wsMo_look 3 74 128 0 D G A [.ref a0, .int x1, .int x2] w (zr_v r) := by
  refine zc_of (ret := none) [some (va_rf (some a0)), some (.int x1), some (.int x2), none] (plainFor_of_name (by decide +kernel)) rfl (Nat.le_of_ble_eq_true rfl) rfl rfl (fun X hX hr hm => ?_)
  unfold zf_Mo_look at h
  refine zg_aload_n (x := (some a0)) hX dMo_look_0 rfl ?_
  refine zg_iload_n hX dMo_look_1 rfl ?_
  obtain ⟨a2, e2, t2, h⟩ := zf_at_e h
  obtain ⟨v2, w2, q2, h⟩ := zf_bd_e h
  refine zg_callV_i (mcy := 0) (v := v2) (w1 := w2) (st := []) hc_9 (by decide) e2 t2 [.int x1] (fun l => zm_Mo_repair l D G A F w a2 x1 (v2, w2) q2) (zt_V zx_867 zx_743 zx_744 zx_5 zx_745) rfl hd_Mo_repair (by decide) (by decide) (by decide) (Nat.le_of_ble_eq_true rfl) rfl rfl hX dMo_look_2 ?_
  refine zg_istore_n hX dMo_look_5 (Nat.le_of_ble_eq_true rfl) rfl h (fun y5 h => ?_)
  refine zg_iload_n hX dMo_look_6 rfl ?_
  refine zg_if_ge (tgt := 33) hX dMo_look_7 rfl h (fun h => ?_) (fun h => ?_)
  · refine zg_aload_n (x := (some a0)) hX dMo_look_33 rfl ?_
    refine zg_getR (ci := 9) (k := 30) hc_9 (by decide) (by decide) hin_9 zx_650 ft_9_30 hX dMo_look_34 h (fun a34 h => ?_)
    refine zg_iconst hX dMo_look_37 (4 : Int32) (by decide) ?_
    refine zg_aload_n (x := (some a0)) hX dMo_look_38 rfl ?_
    refine zg_getI (ci := 9) (k := 31) hc_9 (by decide) (by decide) hin_9 zx_651 ft_9_31 hX dMo_look_39 h (fun a39 h => ?_)
    refine zg_imul hX dMo_look_42 ?_
    refine zg_iconst hX dMo_look_43 (1 : Int32) (by decide) ?_
    refine zg_iadd hX dMo_look_44 ?_
    refine zg_aload_n (x := (some a0)) hX dMo_look_45 rfl ?_
    refine zg_getR (ci := 9) (k := 30) hc_9 (by decide) (by decide) hin_9 zx_650 ft_9_30 hX dMo_look_46 h (fun a46 h => ?_)
    refine zg_iconst hX dMo_look_49 (4 : Int32) (by decide) ?_
    refine zg_aload_n (x := (some a0)) hX dMo_look_50 rfl ?_
    refine zg_getI (ci := 9) (k := 31) hc_9 (by decide) (by decide) hin_9 zx_651 ft_9_31 hX dMo_look_51 h (fun a51 h => ?_)
    refine zg_imul hX dMo_look_54 ?_
    refine zg_iconst hX dMo_look_55 (1 : Int32) (by decide) ?_
    refine zg_iadd hX dMo_look_56 ?_
    refine zg_iald (kd := 139) (by decide) (by decide) hX dMo_look_57 h (fun a57 j57 h => ?_)
    refine zg_iload_n hX dMo_look_58 rfl ?_
    obtain ⟨v59, w59, q59, h⟩ := zf_bd_e h
    refine zg_callS_i (mcy := 0) (v := v59) (w1 := w59) (st := [.int (zw_I w2 139 a57 j57), .int (((4 : Int32) * (zw_I w2 1607 a39 0)) + (1 : Int32)), va_rf (zw_R w2 1606 a34 0)]) [.int y5] (fun l => zm_Mo_codeword l D G A F w2 y5 (v59, w59) q59) (zt_S zx_739 zx_740 zx_5 zx_741) rfl hd_Mo_codeword (by decide) (by decide) (by decide) (Nat.le_trans (zv_s rfl (zv_s rfl (zv_s (zv_cat _) zv_s0))) (by decide)) rfl rfl hX dMo_look_59 ?_
    refine zg_iload_n hX dMo_look_62 rfl ?_
    refine zg_ixor hX dMo_look_63 ?_
    obtain ⟨v64, w64, q64, h⟩ := zf_bd_e h
    refine zg_callS_i (mcy := 0) (v := v64) (w1 := w64) (st := [.int (zw_I w2 139 a57 j57), .int (((4 : Int32) * (zw_I w2 1607 a39 0)) + (1 : Int32)), va_rf (zw_R w2 1606 a34 0)]) [.int (v59 ^^^ x1)] (fun l => zm_Mo_onesOf l D G A F w59 (v59 ^^^ x1) (v64, w64) q64) (zt_S zx_852 zx_853 zx_5 zx_854) rfl hd_Mo_onesOf (by decide) (by decide) (by decide) (Nat.le_trans (zv_s rfl (zv_s rfl (zv_s (zv_cat _) zv_s0))) (by decide)) rfl rfl hX dMo_look_64 ?_
    refine zg_iadd hX dMo_look_67 ?_
    refine zg_iast (kd := 139) (by decide) (by decide) hX dMo_look_68 h (fun w68 h => ?_)
    refine zg_aload_n (x := (some a0)) hX dMo_look_69 rfl ?_
    refine zg_getI (ci := 9) (k := 32) hc_9 (by decide) (by decide) hin_9 zx_652 ft_9_32 hX dMo_look_70 h (fun a70 h => ?_)
    refine zg_if_lt (tgt := 88) hX dMo_look_73 rfl h (fun h => ?_) (fun h => ?_)
    · exact zg_sub (zl_k (zl_d (zl_k (zl_k zl_n)))) (zm_Mo_look_j88 hX hr hm w68 a0 x2 y5 h)
    · refine zg_iload_n hX dMo_look_76 rfl ?_
      refine zg_ldc hX dMo_look_77 (1048576 : Int32) zx_889 ?_
      refine zg_icmp_lt (tgt := 88) hX dMo_look_79 rfl h (fun h => ?_) (fun h => ?_)
      · exact zg_sub (zl_k (zl_d (zl_k (zl_k zl_n)))) (zm_Mo_look_j88 hX hr hm w68 a0 x2 y5 h)
      · refine zg_aload_n (x := (some a0)) hX dMo_look_82 rfl ?_
        refine zg_iload_n hX dMo_look_83 rfl ?_
        obtain ⟨a84, e84, t84, h⟩ := zf_at_e h
        obtain ⟨w84, q84, h⟩ := zf_bv_e h
        refine zg_callV_v (mcy := 0) (w1 := w84) (st := []) hc_9 (by decide) e84 t84 [.int y5] (fun l => zm_Mo_add l D G A F w68 a84 y5 w84 q84) (zt_V zx_890 zx_892 zs_38 zx_5 zx_893) rfl hd_Mo_add (by decide) (by decide) (by decide) (Nat.le_of_ble_eq_true rfl) rfl rfl hX dMo_look_84 ?_
        cases h
        exact zg_vret hX hr (by decide) dMo_look_87
  · refine zg_aload_n (x := (some a0)) hX dMo_look_10 rfl ?_
    refine zg_getR (ci := 9) (k := 30) hc_9 (by decide) (by decide) hin_9 zx_650 ft_9_30 hX dMo_look_11 h (fun a11 h => ?_)
    refine zg_iconst hX dMo_look_14 (4 : Int32) (by decide) ?_
    refine zg_aload_n (x := (some a0)) hX dMo_look_15 rfl ?_
    refine zg_getI (ci := 9) (k := 31) hc_9 (by decide) (by decide) hin_9 zx_651 ft_9_31 hX dMo_look_16 h (fun a16 h => ?_)
    refine zg_imul hX dMo_look_19 ?_
    refine zg_iconst hX dMo_look_20 (2 : Int32) (by decide) ?_
    refine zg_iadd hX dMo_look_21 ?_
    refine zg_dup2 hX dMo_look_22 rfl (zv_cat _) ?_
    refine zg_iald (kd := 139) (by decide) (by decide) hX dMo_look_23 h (fun a23 j23 h => ?_)
    refine zg_iconst hX dMo_look_24 (1 : Int32) (by decide) ?_
    refine zg_iadd hX dMo_look_25 ?_
    refine zg_iast (kd := 139) (by decide) (by decide) hX dMo_look_26 h (fun w26 h => ?_)
    refine zg_aload_n (x := (some a0)) hX dMo_look_27 rfl ?_
    refine zg_iconst hX dMo_look_28 (1 : Int32) (by decide) ?_
    obtain ⟨a29, e29, t29, h⟩ := zf_at_e h
    obtain ⟨w29, q29, h⟩ := zf_bv_e h
    refine zg_callV_v (mcy := 0) (w1 := w29) (st := []) hc_9 (by decide) e29 t29 [.int (1 : Int32)] (fun l => zm_Mo_finish l D G A F w26 a29 (1 : Int32) w29 q29) (zt_V zx_868 zx_870 zs_33 zx_5 zx_871) rfl hd_Mo_finish (by decide) (by decide) (by decide) (Nat.le_of_ble_eq_true rfl) rfl rfl hX dMo_look_29 ?_
    cases h
    exact zg_vret hX hr (by decide) dMo_look_32
def zf_Mo_isSync (F : Nat) (w : zw_T) (a0 : Nat) (x1 : Int32) : Option (Int32 × zw_T) :=
  zf_at w 10 (some a0) fun a2 =>
  zf_bd (zf_Mo_wordAt F w a2 x1) fun v2 w2 =>
  zf_bd (zf_Mo_onesOf F w2 (v2 ^^^ (2094142936 : Int32))) fun v8 w8 =>
  if (2 : Int32) < v8 then (
  zf_b (0 : Int32) (some ((0 : Int32), w8)))
  else (
  zf_b (1 : Int32) (some ((1 : Int32), w8)))
set_option maxHeartbeats 4000000 in
set_option maxRecDepth 100000 in
theorem zm_Mo_isSync (l : Launch) (D : va_G) (G : zw_G) (A : Nat → Prop) (F : Nat) (w : zw_T) (a0 : Nat) (x1 : Int32) (r : Int32 × zw_T) (h : zf_Mo_isSync F w a0 x1 = some r) : zc l yMo_isSync wsMo_isSync 1 23 128 0 D G A [.ref a0, .int x1] w (zr_i r) := by
  refine zc_of (ret := some .boolean) [some (va_rf (some a0)), some (.int x1)] (plainFor_of_name (by decide +kernel)) rfl (Nat.le_of_ble_eq_true rfl) rfl rfl (fun X hX hr hm => ?_)
  unfold zf_Mo_isSync at h
  refine zg_aload_n (x := (some a0)) hX dMo_isSync_0 rfl ?_
  refine zg_iload_n hX dMo_isSync_1 rfl ?_
  obtain ⟨a2, e2, t2, h⟩ := zf_at_e h
  obtain ⟨v2, w2, q2, h⟩ := zf_bd_e h
  refine zg_callV_i (mcy := 0) (v := v2) (w1 := w2) (st := []) hc_9 (by decide) e2 t2 [.int x1] (fun l => zm_Mo_wordAt l D G A F w a2 x1 (v2, w2) q2) (zt_V zx_848 zx_850 zs_29 zx_5 zx_851) rfl hd_Mo_wordAt (by decide) (by decide) (by decide) (Nat.le_of_ble_eq_true rfl) rfl rfl hX dMo_isSync_2 ?_
  refine zg_ldc hX dMo_isSync_5 (2094142936 : Int32) zx_831 ?_
  refine zg_ixor hX dMo_isSync_7 ?_
  obtain ⟨v8, w8, q8, h⟩ := zf_bd_e h
  refine zg_callS_i (mcy := 0) (v := v8) (w1 := w8) (st := []) [.int (v2 ^^^ (2094142936 : Int32))] (fun l => zm_Mo_onesOf l D G A F w2 (v2 ^^^ (2094142936 : Int32)) (v8, w8) q8) (zt_S zx_852 zx_853 zx_5 zx_854) rfl hd_Mo_onesOf (by decide) (by decide) (by decide) (Nat.le_of_ble_eq_true rfl) rfl rfl hX dMo_isSync_8 ?_
  refine zg_iconst hX dMo_isSync_11 (2 : Int32) (by decide) ?_
  refine zg_icmp_gt (tgt := 19) hX dMo_isSync_12 rfl h (fun h => ?_) (fun h => ?_)
  · refine zg_iconst hX dMo_isSync_19 (0 : Int32) (by decide) ?_
    obtain ⟨hb20, h⟩ := zf_b_e h
    cases h
    exact zg_zret hX hr (zf_b_n hb20).1 (by decide) dMo_isSync_20
  · refine zg_iconst hX dMo_isSync_15 (1 : Int32) (by decide) ?_
    refine zg_goto (tgt := 20) hX dMo_isSync_16 rfl ?_
    obtain ⟨hb20, h⟩ := zf_b_e h
    cases h
    exact zg_zret hX hr (zf_b_n hb20).1 (by decide) dMo_isSync_20
def zf_Mo_batches_j83 (F : Nat) (k4 : zw_T → Nat → Int32 → Int32 → Option (Int32 × zw_T)) (k11 : zw_T → Nat → Int32 → Int32 → Option (Int32 × zw_T)) (w : zw_T) (a0 : Nat) (x2 : Int32) (x4 : Int32) : Option (Int32 × zw_T) :=
  zf_let (x2 + (32 : Int32)) fun y87 =>
  zf_let (x4 + (1 : Int32)) fun y88 =>
  k11 w a0 y87 y88
def zf_Mo_batches_L11 (F : Nat) (k4 : zw_T → Nat → Int32 → Int32 → Option (Int32 × zw_T)) : Nat → zw_T → Nat → Int32 → Int32 → Option (Int32 × zw_T)
  | 0, _, _, _, _ => none
  | n + 1, w, a0, x2, x4 =>
  if (16 : Int32) ≤ x4 then (
  zf_at w 10 (some a0) fun a99 =>
  if (x2 + (32 : Int32)) ≤ (zw_I w 1592 a99 0) then (
  zf_at w 10 (some a0) fun a111 =>
  zf_at w 10 (some a0) fun a116 =>
  zf_at w 10 (some a0) fun a121 =>
  zf_at w 10 (some a0) fun a126 =>
  zf_ix w 139 (zw_R w 1606 a121 0) ((4 : Int32) * (zw_I w 1607 a126 0)) fun a130 j130 =>
  zf_ix w 139 (zw_R w 1606 a111 0) ((4 : Int32) * (zw_I w 1607 a116 0)) fun a134 j134 => zf_let (zw_sI w 139 a134 j134 ((zw_I w 139 a130 j130) + (32 : Int32))) fun w134 =>
  zf_at w134 10 (some a0) fun a137 =>
  zf_bd (zf_Mo_isSync F w134 a137 x2) fun v137 w137 =>
  zf_let v137 fun y140 =>
  zf_let (x2 + (32 : Int32)) fun y145 =>
  k4 w137 a0 y145 y140)
  else (
  zf_at w 10 (some a0) fun a106 =>
  some ((zw_I w 1592 a106 0), w)))
  else (
  zf_at w 10 (some a0) fun a23 =>
  if (x2 + (32 : Int32)) ≤ (zw_I w 1592 a23 0) then (
  zf_at w 10 (some a0) fun a39 =>
  zf_bd (zf_Mo_isAwake F w a39 (x4 / (2 : Int32))) fun v39 w39 =>
  if v39 = 0 then (
  zf_Mo_batches_j83 F k4 (zf_Mo_batches_L11 F k4 n) w39 a0 x2 x4)
  else (
  zf_at w39 10 (some a0) fun a46 =>
  zf_at w39 10 (some a0) fun a51 =>
  zf_at w39 10 (some a0) fun a56 =>
  zf_at w39 10 (some a0) fun a61 =>
  zf_ix w39 139 (zw_R w39 1606 a56 0) ((4 : Int32) * (zw_I w39 1607 a61 0)) fun a65 j65 =>
  zf_ix w39 139 (zw_R w39 1606 a46 0) ((4 : Int32) * (zw_I w39 1607 a51 0)) fun a69 j69 => zf_let (zw_sI w39 139 a69 j69 ((zw_I w39 139 a65 j65) + (32 : Int32))) fun w69 =>
  zf_at w69 10 (some a0) fun a73 =>
  zf_bd (zf_Mo_wordAt F w69 a73 x2) fun v73 w73 =>
  zf_at w73 10 (some a0) fun a80 =>
  zf_bv (zf_Mo_look F w73 a80 v73 (x4 / (2 : Int32))) fun w80 =>
  zf_Mo_batches_j83 F k4 (zf_Mo_batches_L11 F k4 n) w80 a0 x2 x4))
  else (
  zf_at w 10 (some a0) fun a30 =>
  some ((zw_I w 1592 a30 0), w)))
def zf_Mo_batches_L4 (F : Nat) : Nat → zw_T → Nat → Int32 → Int32 → Option (Int32 × zw_T)
  | 0, _, _, _, _ => none
  | n + 1, w, a0, x2, x3 =>
  if x3 = 0 then (
  zf_at w 10 (some a0) fun a151 =>
  zf_bv (zf_Mo_finish F w a151 (0 : Int32)) fun w151 =>
  some (x2, w151))
  else (
  zf_let (0 : Int32) fun y9 =>
  zf_Mo_batches_L11 F (zf_Mo_batches_L4 F n) F w a0 x2 y9)
def zf_Mo_batches (F : Nat) (w : zw_T) (a0 : Nat) (x1 : Int32) : Option (Int32 × zw_T) :=
  zf_let x1 fun y1 =>
  zf_let (1 : Int32) fun y3 =>
  zf_Mo_batches_L4 F F w a0 y1 y3
set_option maxHeartbeats 4000000 in
set_option maxRecDepth 100000 in
theorem zm_Mo_batches_j83 {X : zg_X} {D : va_G} {G : zw_G} {A : Nat → Prop} {F : Nat} {k4 : zw_T → Nat → Int32 → Int32 → Option (Int32 × zw_T)} {k11 : zw_T → Nat → Int32 → Int32 → Option (Int32 × zw_T)} {r : Int32 × zw_T} (hX : zg_ok X cMo_batches RMo 5 4 97 128 0 D G A) (hr : zg_rt X = some .int) (hm : zg_nm X = yMo_batches.name) (hk4 : ∀ (w : zw_T) (a0 : Nat) (x2 : Int32) (x3 : Int32), k4 w a0 x2 x3 = some r → zg X D G A (zg_Q X D G A 128 0 (zr_i r)) 128 0 w 4 [some (va_rf (some a0)), none, some (.int x2), some (.int x3), none] []) (hk11 : ∀ (w : zw_T) (a0 : Nat) (x2 : Int32) (x4 : Int32), k11 w a0 x2 x4 = some r → zg X D G A (zg_Q X D G A 128 0 (zr_i r)) 128 0 w 11 [some (va_rf (some a0)), none, some (.int x2), none, some (.int x4)] []) (w : zw_T) (a0 : Nat) (x2 : Int32) (x4 : Int32) (h : zf_Mo_batches_j83 F k4 k11 w a0 x2 x4 = some r) : zg X D G A (zg_Q X D G A 128 0 (zr_i r)) 128 0 w 83 [some (va_rf (some a0)), none, some (.int x2), none, some (.int x4)] [] := by
  unfold zf_Mo_batches_j83 at h
  refine zg_iload_n hX dMo_batches_83 rfl ?_
  refine zg_bipush hX dMo_batches_84 (32 : Int32) (by decide) ?_
  refine zg_iadd hX dMo_batches_86 ?_
  refine zg_istore_n hX dMo_batches_87 (Nat.le_of_ble_eq_true rfl) rfl h (fun y87 h => ?_)
  refine zg_iinc hX dMo_batches_88 (1 : Int32) rfl (by decide) (Nat.le_of_ble_eq_true rfl) rfl h (fun y88 h => ?_)
  refine zg_goto (tgt := 11) hX dMo_batches_91 rfl ?_
  exact zg_sub (zl_k (zl_d (zl_k (zl_d (zl_k zl_n))))) (hk11 w a0 y87 y88 h)
set_option maxHeartbeats 4000000 in
set_option maxRecDepth 100000 in
theorem zm_Mo_batches_L11 {X : zg_X} {D : va_G} {G : zw_G} {A : Nat → Prop} {F : Nat} {k4 : zw_T → Nat → Int32 → Int32 → Option (Int32 × zw_T)} {r : Int32 × zw_T} (hX : zg_ok X cMo_batches RMo 5 4 97 128 0 D G A) (hr : zg_rt X = some .int) (hm : zg_nm X = yMo_batches.name) (hk4 : ∀ (w : zw_T) (a0 : Nat) (x2 : Int32) (x3 : Int32), k4 w a0 x2 x3 = some r → zg X D G A (zg_Q X D G A 128 0 (zr_i r)) 128 0 w 4 [some (va_rf (some a0)), none, some (.int x2), some (.int x3), none] []) : ∀ (n : Nat) (w : zw_T) (a0 : Nat) (x2 : Int32) (x4 : Int32), zf_Mo_batches_L11 F k4 n w a0 x2 x4 = some r → zg X D G A (zg_Q X D G A 128 0 (zr_i r)) 128 0 w 11 [some (va_rf (some a0)), none, some (.int x2), none, some (.int x4)] [] := by
  intro n
  induction n with
  | zero =>
    intro w a0 x2 x4 h
    unfold zf_Mo_batches_L11 at h
    cases h
  | succ n ih =>
    intro w a0 x2 x4 h
    rw [zf_Mo_batches_L11] at h
    refine zg_iload hX dMo_batches_11 rfl ?_
    refine zg_bipush hX dMo_batches_13 (16 : Int32) (by decide) ?_
    refine zg_icmp_ge (tgt := 94) hX dMo_batches_15 rfl h (fun h => ?_) (fun h => ?_)
    · refine zg_iload_n hX dMo_batches_94 rfl ?_
      refine zg_bipush hX dMo_batches_95 (32 : Int32) (by decide) ?_
      refine zg_iadd hX dMo_batches_97 ?_
      refine zg_aload_n (x := (some a0)) hX dMo_batches_98 rfl ?_
      refine zg_getI (ci := 9) (k := 16) hc_9 (by decide) (by decide) hin_9 zx_638 ft_9_16 hX dMo_batches_99 h (fun a99 h => ?_)
      refine zg_icmp_le (tgt := 110) hX dMo_batches_102 rfl h (fun h => ?_) (fun h => ?_)
      · refine zg_aload_n (x := (some a0)) hX dMo_batches_110 rfl ?_
        refine zg_getR (ci := 9) (k := 30) hc_9 (by decide) (by decide) hin_9 zx_650 ft_9_30 hX dMo_batches_111 h (fun a111 h => ?_)
        refine zg_iconst hX dMo_batches_114 (4 : Int32) (by decide) ?_
        refine zg_aload_n (x := (some a0)) hX dMo_batches_115 rfl ?_
        refine zg_getI (ci := 9) (k := 31) hc_9 (by decide) (by decide) hin_9 zx_651 ft_9_31 hX dMo_batches_116 h (fun a116 h => ?_)
        refine zg_imul hX dMo_batches_119 ?_
        refine zg_aload_n (x := (some a0)) hX dMo_batches_120 rfl ?_
        refine zg_getR (ci := 9) (k := 30) hc_9 (by decide) (by decide) hin_9 zx_650 ft_9_30 hX dMo_batches_121 h (fun a121 h => ?_)
        refine zg_iconst hX dMo_batches_124 (4 : Int32) (by decide) ?_
        refine zg_aload_n (x := (some a0)) hX dMo_batches_125 rfl ?_
        refine zg_getI (ci := 9) (k := 31) hc_9 (by decide) (by decide) hin_9 zx_651 ft_9_31 hX dMo_batches_126 h (fun a126 h => ?_)
        refine zg_imul hX dMo_batches_129 ?_
        refine zg_iald (kd := 139) (by decide) (by decide) hX dMo_batches_130 h (fun a130 j130 h => ?_)
        refine zg_bipush hX dMo_batches_131 (32 : Int32) (by decide) ?_
        refine zg_iadd hX dMo_batches_133 ?_
        refine zg_iast (kd := 139) (by decide) (by decide) hX dMo_batches_134 h (fun w134 h => ?_)
        refine zg_aload_n (x := (some a0)) hX dMo_batches_135 rfl ?_
        refine zg_iload_n hX dMo_batches_136 rfl ?_
        obtain ⟨a137, e137, t137, h⟩ := zf_at_e h
        obtain ⟨v137, w137, q137, h⟩ := zf_bd_e h
        refine zg_callV_i (mcy := 0) (v := v137) (w1 := w137) (st := []) hc_9 (by decide) e137 t137 [.int x2] (fun l => zm_Mo_isSync l D G A F w134 a137 x2 (v137, w137) q137) (zt_V zx_844 zx_846 zs_28 zx_5 zx_847) rfl hd_Mo_isSync (by decide) (by decide) (by decide) (Nat.le_of_ble_eq_true rfl) rfl rfl hX dMo_batches_137 ?_
        refine zg_istore_n hX dMo_batches_140 (Nat.le_of_ble_eq_true rfl) rfl h (fun y140 h => ?_)
        refine zg_iload_n hX dMo_batches_141 rfl ?_
        refine zg_bipush hX dMo_batches_142 (32 : Int32) (by decide) ?_
        refine zg_iadd hX dMo_batches_144 ?_
        refine zg_istore_n hX dMo_batches_145 (Nat.le_of_ble_eq_true rfl) rfl h (fun y145 h => ?_)
        refine zg_goto (tgt := 4) hX dMo_batches_146 rfl ?_
        exact zg_sub (zl_k (zl_d (zl_k (zl_k (zl_d zl_n))))) (hk4 w137 a0 y145 y140 h)
      · refine zg_aload_n (x := (some a0)) hX dMo_batches_105 rfl ?_
        refine zg_getI (ci := 9) (k := 16) hc_9 (by decide) (by decide) hin_9 zx_638 ft_9_16 hX dMo_batches_106 h (fun a106 h => ?_)
        cases h
        exact zg_iret hX hr (by decide) dMo_batches_109
    · refine zg_iload_n hX dMo_batches_18 rfl ?_
      refine zg_bipush hX dMo_batches_19 (32 : Int32) (by decide) ?_
      refine zg_iadd hX dMo_batches_21 ?_
      refine zg_aload_n (x := (some a0)) hX dMo_batches_22 rfl ?_
      refine zg_getI (ci := 9) (k := 16) hc_9 (by decide) (by decide) hin_9 zx_638 ft_9_16 hX dMo_batches_23 h (fun a23 h => ?_)
      refine zg_icmp_le (tgt := 34) hX dMo_batches_26 rfl h (fun h => ?_) (fun h => ?_)
      · refine zg_aload_n (x := (some a0)) hX dMo_batches_34 rfl ?_
        refine zg_iload hX dMo_batches_35 rfl ?_
        refine zg_iconst hX dMo_batches_37 (2 : Int32) (by decide) ?_
        refine zg_idiv hX dMo_batches_38 (by decide) ?_
        obtain ⟨a39, e39, t39, h⟩ := zf_at_e h
        obtain ⟨v39, w39, q39, h⟩ := zf_bd_e h
        refine zg_callV_i (mcy := 0) (v := v39) (w1 := w39) (st := []) hc_9 (by decide) e39 t39 [.int (x4 / (2 : Int32))] (fun l => zm_Mo_isAwake l D G A F w a39 (x4 / (2 : Int32)) (v39, w39) q39) (zt_V zx_859 zx_861 zs_31 zx_5 zx_862) rfl hd_Mo_isAwake (by decide) (by decide) (by decide) (Nat.le_of_ble_eq_true rfl) rfl rfl hX dMo_batches_39 ?_
        refine zg_if_eq (tgt := 83) hX dMo_batches_42 rfl h (fun h => ?_) (fun h => ?_)
        · exact zg_sub (zl_k (zl_d (zl_k (zl_d (zl_k zl_n))))) (zm_Mo_batches_j83 hX hr hm hk4 ih w39 a0 x2 x4 h)
        · refine zg_aload_n (x := (some a0)) hX dMo_batches_45 rfl ?_
          refine zg_getR (ci := 9) (k := 30) hc_9 (by decide) (by decide) hin_9 zx_650 ft_9_30 hX dMo_batches_46 h (fun a46 h => ?_)
          refine zg_iconst hX dMo_batches_49 (4 : Int32) (by decide) ?_
          refine zg_aload_n (x := (some a0)) hX dMo_batches_50 rfl ?_
          refine zg_getI (ci := 9) (k := 31) hc_9 (by decide) (by decide) hin_9 zx_651 ft_9_31 hX dMo_batches_51 h (fun a51 h => ?_)
          refine zg_imul hX dMo_batches_54 ?_
          refine zg_aload_n (x := (some a0)) hX dMo_batches_55 rfl ?_
          refine zg_getR (ci := 9) (k := 30) hc_9 (by decide) (by decide) hin_9 zx_650 ft_9_30 hX dMo_batches_56 h (fun a56 h => ?_)
          refine zg_iconst hX dMo_batches_59 (4 : Int32) (by decide) ?_
          refine zg_aload_n (x := (some a0)) hX dMo_batches_60 rfl ?_
          refine zg_getI (ci := 9) (k := 31) hc_9 (by decide) (by decide) hin_9 zx_651 ft_9_31 hX dMo_batches_61 h (fun a61 h => ?_)
          refine zg_imul hX dMo_batches_64 ?_
          refine zg_iald (kd := 139) (by decide) (by decide) hX dMo_batches_65 h (fun a65 j65 h => ?_)
          refine zg_bipush hX dMo_batches_66 (32 : Int32) (by decide) ?_
          refine zg_iadd hX dMo_batches_68 ?_
          refine zg_iast (kd := 139) (by decide) (by decide) hX dMo_batches_69 h (fun w69 h => ?_)
          refine zg_aload_n (x := (some a0)) hX dMo_batches_70 rfl ?_
          refine zg_aload_n (x := (some a0)) hX dMo_batches_71 rfl ?_
          refine zg_iload_n hX dMo_batches_72 rfl ?_
          obtain ⟨a73, e73, t73, h⟩ := zf_at_e h
          obtain ⟨v73, w73, q73, h⟩ := zf_bd_e h
          refine zg_callV_i (mcy := 0) (v := v73) (w1 := w73) (st := [va_rf (some a0)]) hc_9 (by decide) e73 t73 [.int x2] (fun l => zm_Mo_wordAt l D G A F w69 a73 x2 (v73, w73) q73) (zt_V zx_848 zx_850 zs_29 zx_5 zx_851) rfl hd_Mo_wordAt (by decide) (by decide) (by decide) (Nat.le_of_ble_eq_true rfl) rfl rfl hX dMo_batches_73 ?_
          refine zg_iload hX dMo_batches_76 rfl ?_
          refine zg_iconst hX dMo_batches_78 (2 : Int32) (by decide) ?_
          refine zg_idiv hX dMo_batches_79 (by decide) ?_
          obtain ⟨a80, e80, t80, h⟩ := zf_at_e h
          obtain ⟨w80, q80, h⟩ := zf_bv_e h
          refine zg_callV_v (mcy := 0) (w1 := w80) (st := []) hc_9 (by decide) e80 t80 [.int v73, .int (x4 / (2 : Int32))] (fun l => zm_Mo_look l D G A F w73 a80 v73 (x4 / (2 : Int32)) w80 q80) (zt_V zx_863 zx_865 zs_32 zx_5 zx_866) rfl hd_Mo_look (by decide) (by decide) (by decide) (Nat.le_of_ble_eq_true rfl) rfl rfl hX dMo_batches_80 ?_
          exact zg_sub (zl_k (zl_d (zl_k (zl_d (zl_k zl_n))))) (zm_Mo_batches_j83 hX hr hm hk4 ih w80 a0 x2 x4 h)
      · refine zg_aload_n (x := (some a0)) hX dMo_batches_29 rfl ?_
        refine zg_getI (ci := 9) (k := 16) hc_9 (by decide) (by decide) hin_9 zx_638 ft_9_16 hX dMo_batches_30 h (fun a30 h => ?_)
        cases h
        exact zg_iret hX hr (by decide) dMo_batches_33
set_option maxHeartbeats 4000000 in
set_option maxRecDepth 100000 in
theorem zm_Mo_batches_L4 {X : zg_X} {D : va_G} {G : zw_G} {A : Nat → Prop} {F : Nat} {r : Int32 × zw_T} (hX : zg_ok X cMo_batches RMo 5 4 97 128 0 D G A) (hr : zg_rt X = some .int) (hm : zg_nm X = yMo_batches.name) : ∀ (n : Nat) (w : zw_T) (a0 : Nat) (x2 : Int32) (x3 : Int32), zf_Mo_batches_L4 F n w a0 x2 x3 = some r → zg X D G A (zg_Q X D G A 128 0 (zr_i r)) 128 0 w 4 [some (va_rf (some a0)), none, some (.int x2), some (.int x3), none] [] := by
  intro n
  induction n with
  | zero =>
    intro w a0 x2 x3 h
    unfold zf_Mo_batches_L4 at h
    cases h
  | succ n ih =>
    intro w a0 x2 x3 h
    rw [zf_Mo_batches_L4] at h
    refine zg_iload_n hX dMo_batches_4 rfl ?_
    refine zg_if_eq (tgt := 149) hX dMo_batches_5 rfl h (fun h => ?_) (fun h => ?_)
    · refine zg_aload_n (x := (some a0)) hX dMo_batches_149 rfl ?_
      refine zg_iconst hX dMo_batches_150 (0 : Int32) (by decide) ?_
      obtain ⟨a151, e151, t151, h⟩ := zf_at_e h
      obtain ⟨w151, q151, h⟩ := zf_bv_e h
      refine zg_callV_v (mcy := 0) (w1 := w151) (st := []) hc_9 (by decide) e151 t151 [.int (0 : Int32)] (fun l => zm_Mo_finish l D G A F w a151 (0 : Int32) w151 q151) (zt_V zx_868 zx_870 zs_33 zx_5 zx_871) rfl hd_Mo_finish (by decide) (by decide) (by decide) (Nat.le_of_ble_eq_true rfl) rfl rfl hX dMo_batches_151 ?_
      refine zg_iload_n hX dMo_batches_154 rfl ?_
      cases h
      exact zg_iret hX hr (by decide) dMo_batches_155
    · refine zg_iconst hX dMo_batches_8 (0 : Int32) (by decide) ?_
      refine zg_istore hX dMo_batches_9 (Nat.le_of_ble_eq_true rfl) rfl h (fun y9 h => ?_)
      exact zg_sub (zl_k (zl_d (zl_k (zl_d (zl_k zl_n))))) (zm_Mo_batches_L11 hX hr hm ih F w a0 x2 y9 h)
set_option maxHeartbeats 4000000 in
set_option maxRecDepth 100000 in
theorem zm_Mo_batches (l : Launch) (D : va_G) (G : zw_G) (A : Nat → Prop) (F : Nat) (w : zw_T) (a0 : Nat) (x1 : Int32) (r : Int32 × zw_T) (h : zf_Mo_batches F w a0 x1 = some r) : zc l yMo_batches wsMo_batches 4 97 128 0 D G A [.ref a0, .int x1] w (zr_i r) := by
  refine zc_of (ret := some .int) [some (va_rf (some a0)), some (.int x1), none, none, none] (plainFor_of_name (by decide +kernel)) rfl (Nat.le_of_ble_eq_true rfl) rfl rfl (fun X hX hr hm => ?_)
  unfold zf_Mo_batches at h
  refine zg_iload_n hX dMo_batches_0 rfl ?_
  refine zg_istore_n hX dMo_batches_1 (Nat.le_of_ble_eq_true rfl) rfl h (fun y1 h => ?_)
  refine zg_iconst hX dMo_batches_2 (1 : Int32) (by decide) ?_
  refine zg_istore_n hX dMo_batches_3 (Nat.le_of_ble_eq_true rfl) rfl h (fun y3 h => ?_)
  exact zg_sub (zl_k (zl_d (zl_k (zl_k (zl_d zl_n))))) (zm_Mo_batches_L4 hX hr hm F w a0 y1 y3 h)
def zf_Mo_bit (F : Nat) (w : zw_T) (a0 : Nat) (x1 : Int32) : Option (Int32 × zw_T) :=
  if x1 < 0 then (
  some ((-1 : Int32), w))
  else (
  zf_at w 10 (some a0) fun a6 =>
  if x1 < (zw_I w 1592 a6 0) then (
  zf_at w 10 (some a0) fun a17 =>
  zf_ix w 130 (zw_R w 1591 a17 0) x1 fun a21 j21 =>
  some ((zw_I w 130 a21 j21), w))
  else (
  some ((-1 : Int32), w)))
set_option maxHeartbeats 4000000 in
set_option maxRecDepth 100000 in
theorem zm_Mo_bit (l : Launch) (D : va_G) (G : zw_G) (A : Nat → Prop) (F : Nat) (w : zw_T) (a0 : Nat) (x1 : Int32) (r : Int32 × zw_T) (h : zf_Mo_bit F w a0 x1 = some r) : zc l yMo_bit wsMo_bit 0 0 128 0 D G A [.ref a0, .int x1] w (zr_i r) := by
  refine zc_of (ret := some .int) [some (va_rf (some a0)), some (.int x1)] (plainFor_of_name (by decide +kernel)) rfl (Nat.le_of_ble_eq_true rfl) rfl rfl (fun X hX hr hm => ?_)
  unfold zf_Mo_bit at h
  refine zg_iload_n hX dMo_bit_0 rfl ?_
  refine zg_if_lt (tgt := 12) hX dMo_bit_1 rfl h (fun h => ?_) (fun h => ?_)
  · refine zg_iconst hX dMo_bit_12 (-1 : Int32) (by decide) ?_
    refine zg_goto (tgt := 22) hX dMo_bit_13 rfl ?_
    cases h
    exact zg_iret hX hr (by decide) dMo_bit_22
  · refine zg_iload_n hX dMo_bit_4 rfl ?_
    refine zg_aload_n (x := (some a0)) hX dMo_bit_5 rfl ?_
    refine zg_getI (ci := 9) (k := 16) hc_9 (by decide) (by decide) hin_9 zx_638 ft_9_16 hX dMo_bit_6 h (fun a6 h => ?_)
    refine zg_icmp_lt (tgt := 16) hX dMo_bit_9 rfl h (fun h => ?_) (fun h => ?_)
    · refine zg_aload_n (x := (some a0)) hX dMo_bit_16 rfl ?_
      refine zg_getR (ci := 9) (k := 15) hc_9 (by decide) (by decide) hin_9 zx_637 ft_9_15 hX dMo_bit_17 h (fun a17 h => ?_)
      refine zg_iload_n hX dMo_bit_20 rfl ?_
      refine zg_iald (kd := 130) (by decide) (by decide) hX dMo_bit_21 h (fun a21 j21 h => ?_)
      cases h
      exact zg_iret hX hr (by decide) dMo_bit_22
    · refine zg_iconst hX dMo_bit_12 (-1 : Int32) (by decide) ?_
      refine zg_goto (tgt := 22) hX dMo_bit_13 rfl ?_
      cases h
      exact zg_iret hX hr (by decide) dMo_bit_22
def zf_Mo_isIdentity (F : Nat) (w : zw_T) (a0 : Nat) (x1 : Int32) : Option (Int32 × zw_T) :=
  if x1 < 0 then (
  zf_b (0 : Int32) (some ((0 : Int32), w)))
  else (
  zf_at w 10 (some a0) fun a6 =>
  if (zw_I w 1576 a6 0) ≤ x1 then (
  zf_b (0 : Int32) (some ((0 : Int32), w)))
  else (
  zf_b (1 : Int32) (some ((1 : Int32), w))))
set_option maxHeartbeats 4000000 in
set_option maxRecDepth 100000 in
theorem zm_Mo_isIdentity (l : Launch) (D : va_G) (G : zw_G) (A : Nat → Prop) (F : Nat) (w : zw_T) (a0 : Nat) (x1 : Int32) (r : Int32 × zw_T) (h : zf_Mo_isIdentity F w a0 x1 = some r) : zc l yMo_isIdentity wsMo_isIdentity 0 0 128 0 D G A [.ref a0, .int x1] w (zr_i r) := by
  refine zc_of (ret := some .boolean) [some (va_rf (some a0)), some (.int x1)] (plainFor_of_name (by decide +kernel)) rfl (Nat.le_of_ble_eq_true rfl) rfl rfl (fun X hX hr hm => ?_)
  unfold zf_Mo_isIdentity at h
  refine zg_iload_n hX dMo_isIdentity_0 rfl ?_
  refine zg_if_lt (tgt := 16) hX dMo_isIdentity_1 rfl h (fun h => ?_) (fun h => ?_)
  · refine zg_iconst hX dMo_isIdentity_16 (0 : Int32) (by decide) ?_
    obtain ⟨hb17, h⟩ := zf_b_e h
    cases h
    exact zg_zret hX hr (zf_b_n hb17).1 (by decide) dMo_isIdentity_17
  · refine zg_iload_n hX dMo_isIdentity_4 rfl ?_
    refine zg_aload_n (x := (some a0)) hX dMo_isIdentity_5 rfl ?_
    refine zg_getI (ci := 9) (k := 0) hc_9 (by decide) (by decide) hin_9 zx_622 ft_9_0 hX dMo_isIdentity_6 h (fun a6 h => ?_)
    refine zg_icmp_ge (tgt := 16) hX dMo_isIdentity_9 rfl h (fun h => ?_) (fun h => ?_)
    · refine zg_iconst hX dMo_isIdentity_16 (0 : Int32) (by decide) ?_
      obtain ⟨hb17, h⟩ := zf_b_e h
      cases h
      exact zg_zret hX hr (zf_b_n hb17).1 (by decide) dMo_isIdentity_17
    · refine zg_iconst hX dMo_isIdentity_12 (1 : Int32) (by decide) ?_
      refine zg_goto (tgt := 17) hX dMo_isIdentity_13 rfl ?_
      obtain ⟨hb17, h⟩ := zf_b_e h
      cases h
      exact zg_zret hX hr (zf_b_n hb17).1 (by decide) dMo_isIdentity_17
def zf_Mo_waiting_j28 (F : Nat) (k4 : zw_T → Nat → Int32 → Int32 → Option (Int32 × zw_T)) (w : zw_T) (a0 : Nat) (x2 : Int32) (s0 : Int32) : Option (Int32 × zw_T) :=
  zf_let s0 fun y28 =>
  zf_let (x2 + (1 : Int32)) fun y29 =>
  k4 w a0 y28 y29
def zf_Mo_waiting_L4 (F : Nat) : Nat → zw_T → Nat → Int32 → Int32 → Option (Int32 × zw_T)
  | 0, _, _, _, _ => none
  | n + 1, w, a0, x1, x2 =>
  zf_at w 10 (some a0) fun a6 =>
  if (zw_I w 1580 a6 0) ≤ x2 then (
  some (x1, w))
  else (
  zf_at w 10 (some a0) fun a13 =>
  zf_ix w 200 (zw_R w 1586 a13 0) x2 fun a17 j17 =>
  if (zw_I w 200 a17 j17) = 0 then (
  zf_Mo_waiting_j28 F (zf_Mo_waiting_L4 F n) w a0 x2 x1)
  else (
  zf_Mo_waiting_j28 F (zf_Mo_waiting_L4 F n) w a0 x2 (x1 + (1 : Int32))))
def zf_Mo_waiting (F : Nat) (w : zw_T) (a0 : Nat) : Option (Int32 × zw_T) :=
  zf_let (0 : Int32) fun y1 =>
  zf_let (0 : Int32) fun y3 =>
  zf_Mo_waiting_L4 F F w a0 y1 y3
set_option maxHeartbeats 4000000 in
set_option maxRecDepth 100000 in
theorem zm_Mo_waiting_j28 {X : zg_X} {D : va_G} {G : zw_G} {A : Nat → Prop} {F : Nat} {k4 : zw_T → Nat → Int32 → Int32 → Option (Int32 × zw_T)} {r : Int32 × zw_T} (hX : zg_ok X cMo_waiting RMo 3 0 0 128 0 D G A) (hr : zg_rt X = some .int) (hm : zg_nm X = yMo_waiting.name) (hk4 : ∀ (w : zw_T) (a0 : Nat) (x1 : Int32) (x2 : Int32), k4 w a0 x1 x2 = some r → zg X D G A (zg_Q X D G A 128 0 (zr_i r)) 128 0 w 4 [some (va_rf (some a0)), some (.int x1), some (.int x2)] []) (w : zw_T) (a0 : Nat) (x2 : Int32) (s0 : Int32) (h : zf_Mo_waiting_j28 F k4 w a0 x2 s0 = some r) : zg X D G A (zg_Q X D G A 128 0 (zr_i r)) 128 0 w 28 [some (va_rf (some a0)), none, some (.int x2)] [.int s0] := by
  unfold zf_Mo_waiting_j28 at h
  refine zg_istore_n hX dMo_waiting_28 (Nat.le_of_ble_eq_true rfl) rfl h (fun y28 h => ?_)
  refine zg_iinc hX dMo_waiting_29 (1 : Int32) rfl (by decide) (Nat.le_of_ble_eq_true rfl) rfl h (fun y29 h => ?_)
  refine zg_goto (tgt := 4) hX dMo_waiting_32 rfl ?_
  exact zg_sub (zl_k (zl_k (zl_k zl_n))) (hk4 w a0 y28 y29 h)
set_option maxHeartbeats 4000000 in
set_option maxRecDepth 100000 in
theorem zm_Mo_waiting_L4 {X : zg_X} {D : va_G} {G : zw_G} {A : Nat → Prop} {F : Nat} {r : Int32 × zw_T} (hX : zg_ok X cMo_waiting RMo 3 0 0 128 0 D G A) (hr : zg_rt X = some .int) (hm : zg_nm X = yMo_waiting.name) : ∀ (n : Nat) (w : zw_T) (a0 : Nat) (x1 : Int32) (x2 : Int32), zf_Mo_waiting_L4 F n w a0 x1 x2 = some r → zg X D G A (zg_Q X D G A 128 0 (zr_i r)) 128 0 w 4 [some (va_rf (some a0)), some (.int x1), some (.int x2)] [] := by
  intro n
  induction n with
  | zero =>
    intro w a0 x1 x2 h
    unfold zf_Mo_waiting_L4 at h
    cases h
  | succ n ih =>
    intro w a0 x1 x2 h
    rw [zf_Mo_waiting_L4] at h
    refine zg_iload_n hX dMo_waiting_4 rfl ?_
    refine zg_aload_n (x := (some a0)) hX dMo_waiting_5 rfl ?_
    refine zg_getI (ci := 9) (k := 4) hc_9 (by decide) (by decide) hin_9 zx_626 ft_9_4 hX dMo_waiting_6 h (fun a6 h => ?_)
    refine zg_icmp_ge (tgt := 35) hX dMo_waiting_9 rfl h (fun h => ?_) (fun h => ?_)
    · refine zg_iload_n hX dMo_waiting_35 rfl ?_
      cases h
      exact zg_iret hX hr (by decide) dMo_waiting_36
    · refine zg_aload_n (x := (some a0)) hX dMo_waiting_12 rfl ?_
      refine zg_getR (ci := 9) (k := 10) hc_9 (by decide) (by decide) hin_9 zx_632 ft_9_10 hX dMo_waiting_13 h (fun a13 h => ?_)
      refine zg_iload_n hX dMo_waiting_16 rfl ?_
      refine zg_zald (kd := 200) (by decide) (by decide) hX dMo_waiting_17 h (fun a17 j17 h => ?_)
      refine zg_if_eq (tgt := 27) hX dMo_waiting_18 rfl h (fun h => ?_) (fun h => ?_)
      · refine zg_iload_n hX dMo_waiting_27 rfl ?_
        exact zg_sub (zl_k (zl_d (zl_k zl_n))) (zm_Mo_waiting_j28 hX hr hm ih w a0 x2 x1 h)
      · refine zg_iload_n hX dMo_waiting_21 rfl ?_
        refine zg_iconst hX dMo_waiting_22 (1 : Int32) (by decide) ?_
        refine zg_iadd hX dMo_waiting_23 ?_
        refine zg_goto (tgt := 28) hX dMo_waiting_24 rfl ?_
        exact zg_sub (zl_k (zl_d (zl_k zl_n))) (zm_Mo_waiting_j28 hX hr hm ih w a0 x2 (x1 + (1 : Int32)) h)
set_option maxHeartbeats 4000000 in
set_option maxRecDepth 100000 in
theorem zm_Mo_waiting (l : Launch) (D : va_G) (G : zw_G) (A : Nat → Prop) (F : Nat) (w : zw_T) (a0 : Nat) (r : Int32 × zw_T) (h : zf_Mo_waiting F w a0 = some r) : zc l yMo_waiting wsMo_waiting 0 0 128 0 D G A [.ref a0] w (zr_i r) := by
  refine zc_of (ret := some .int) [some (va_rf (some a0)), none, none] (plainFor_of_name (by decide +kernel)) rfl (Nat.le_of_ble_eq_true rfl) rfl rfl (fun X hX hr hm => ?_)
  unfold zf_Mo_waiting at h
  refine zg_iconst hX dMo_waiting_0 (0 : Int32) (by decide) ?_
  refine zg_istore_n hX dMo_waiting_1 (Nat.le_of_ble_eq_true rfl) rfl h (fun y1 h => ?_)
  refine zg_iconst hX dMo_waiting_2 (0 : Int32) (by decide) ?_
  refine zg_istore_n hX dMo_waiting_3 (Nat.le_of_ble_eq_true rfl) rfl h (fun y3 h => ?_)
  exact zg_sub (zl_k (zl_k (zl_k zl_n))) (zm_Mo_waiting_L4 hX hr hm F w a0 y1 y3 h)
def zf_Mo_call_L164 (F : Nat) : Nat → zw_T → Nat → Int32 → Int32 → Option (Int32 × zw_T)
  | 0, _, _, _, _ => none
  | n + 1, w, a0, x3, x4 =>
  zf_at w 10 (some a0) fun a167 =>
  if (zw_I w 1588 a167 0) ≤ x4 then (
  zf_at w 10 (some a0) fun a199 =>
  zf_ix w 200 (zw_R w 1586 a199 0) x3 fun a204 j204 => zf_let (zw_sI w 200 a204 j204 (vp_nar .boolean (1 : Int32))) fun w204 =>
  zf_at w204 10 (some a0) fun a207 => zf_let (zw_sI w204 1588 a207 0 (0 : Int32)) fun w207 =>
  zf_at w207 10 (some a0) fun a211 =>
  zf_ix w207 125 (zw_R w207 1583 a211 0) x3 fun a215 j215 =>
  some ((zw_I w207 125 a215 j215), w207))
  else (
  zf_at w 10 (some a0) fun a174 =>
  zf_at w 10 (some a0) fun a185 =>
  zf_ix w 128 (zw_R w 1587 a185 0) x4 fun a190 j190 =>
  zf_ix w 127 (zw_R w 1585 a174 0) (((20 : Int32) * x3) + x4) fun a191 j191 => zf_let (zw_sI w 127 a191 j191 (zw_I w 128 a190 j190)) fun w191 =>
  zf_let (x4 + (1 : Int32)) fun y192 =>
  zf_Mo_call_L164 F n w191 a0 x3 y192)
def zf_Mo_call_j91 (F : Nat) (k47 : zw_T → Nat → Int32 → Int32 → Int32 → Option (Int32 × zw_T)) (w : zw_T) (a0 : Nat) (x1 : Int32) (x2 : Int32) (x3 : Int32) : Option (Int32 × zw_T) :=
  zf_let (x3 + (1 : Int32)) fun y91 =>
  k47 w a0 x1 x2 y91
def zf_Mo_call_L47 (F : Nat) : Nat → zw_T → Nat → Int32 → Int32 → Int32 → Option (Int32 × zw_T)
  | 0, _, _, _, _, _ => none
  | n + 1, w, a0, x1, x2, x3 =>
  zf_at w 10 (some a0) fun a49 =>
  if (zw_I w 1588 a49 0) ≤ x3 then (
  zf_at w 10 (some a0) fun a98 =>
  zf_let (zw_I w 1580 a98 0) fun y101 =>
  zf_at w 10 (some a0) fun a104 =>
  zf_at w 10 (some a0) fun a109 => zf_let (zw_sI w 1580 a109 0 ((zw_I w 1580 a104 0) + (1 : Int32))) fun w109 =>
  zf_at w109 10 (some a0) fun a113 =>
  zf_ix w109 123 (zw_R w109 1581 a113 0) y101 fun a118 j118 => zf_let (zw_sI w109 123 a118 j118 x1) fun w118 =>
  zf_at w118 10 (some a0) fun a120 =>
  zf_ix w118 124 (zw_R w118 1582 a120 0) y101 fun a125 j125 => zf_let (zw_sI w118 124 a125 j125 x2) fun w125 =>
  zf_at w125 10 (some a0) fun a127 =>
  zf_at w125 10 (some a0) fun a132 =>
  zf_ix w125 122 (zw_R w125 1579 a132 0) x1 fun a136 j136 =>
  zf_ix w125 125 (zw_R w125 1583 a127 0) y101 fun a140 j140 => zf_let (zw_sI w125 125 a140 j140 (zi_rem (zw_I w125 122 a136 j136) (64 : Int32))) fun w140 =>
  zf_at w140 10 (some a0) fun a142 =>
  zf_ix w140 122 (zw_R w140 1579 a142 0) x1 fun a147 j147 =>
  zf_ix w140 122 (zw_R w140 1579 a142 0) x1 fun a150 j150 => zf_let (zw_sI w140 122 a150 j150 ((zw_I w140 122 a147 j147) + (1 : Int32))) fun w150 =>
  zf_at w150 10 (some a0) fun a152 =>
  zf_at w150 10 (some a0) fun a157 =>
  zf_ix w150 126 (zw_R w150 1584 a152 0) y101 fun a160 j160 => zf_let (zw_sI w150 126 a160 j160 (zw_I w150 1588 a157 0)) fun w160 =>
  zf_let (0 : Int32) fun y162 =>
  zf_Mo_call_L164 F F w160 a0 y101 y162)
  else (
  zf_at w 10 (some a0) fun a56 =>
  zf_ix w 121 (zw_R w 1578 a56 0) x1 fun a60 j60 =>
  if (zw_I w 121 a60 j60) = 0 then (
  zf_at w 10 (some a0) fun a65 =>
  zf_ix w 128 (zw_R w 1587 a65 0) x3 fun a69 j69 =>
  if (zw_I w 128 a69 j69) ≤ (11 : Int32) then (
  zf_Mo_call_j91 F (zf_Mo_call_L47 F n) w a0 x1 x2 x3)
  else (
  some ((-1 : Int32), w)))
  else (
  zf_at w 10 (some a0) fun a79 =>
  zf_ix w 128 (zw_R w 1587 a79 0) x3 fun a83 j83 =>
  if (32 : Int32) ≤ (zw_I w 128 a83 j83) then (
  zf_Mo_call_j91 F (zf_Mo_call_L47 F n) w a0 x1 x2 x3)
  else (
  some ((-1 : Int32), w))))
def zf_Mo_call (F : Nat) (w : zw_T) (a0 : Nat) (x1 : Int32) (x2 : Int32) : Option (Int32 × zw_T) :=
  zf_at w 10 (some a0) fun a2 =>
  zf_bd (zf_Mo_isIdentity F w a2 x1) fun v2 w2 =>
  if v2 = 0 then (
  some ((-1 : Int32), w2))
  else (
  if x2 < 0 then (
  some ((-1 : Int32), w2))
  else (
  if (3 : Int32) < x2 then (
  some ((-1 : Int32), w2))
  else (
  zf_at w2 10 (some a0) fun a18 =>
  if (zw_I w2 1588 a18 0) = 0 then (
  some ((-1 : Int32), w2))
  else (
  zf_at w2 10 (some a0) fun a25 =>
  zf_bd (zf_Mo_waiting F w2 a25) fun v25 w25 =>
  if v25 = (60 : Int32) then (
  some ((-1 : Int32), w25))
  else (
  zf_at w25 10 (some a0) fun a34 =>
  if (zw_I w25 1580 a34 0) = (200 : Int32) then (
  some ((-1 : Int32), w25))
  else (
  zf_let (0 : Int32) fun y46 =>
  zf_Mo_call_L47 F F w25 a0 x1 x2 y46))))))
set_option maxHeartbeats 4000000 in
set_option maxRecDepth 100000 in
theorem zm_Mo_call_L164 {X : zg_X} {D : va_G} {G : zw_G} {A : Nat → Prop} {F : Nat} {r : Int32 × zw_T} (hX : zg_ok X cMo_call RMo 5 1 22 128 0 D G A) (hr : zg_rt X = some .int) (hm : zg_nm X = yMo_call.name) : ∀ (n : Nat) (w : zw_T) (a0 : Nat) (x3 : Int32) (x4 : Int32), zf_Mo_call_L164 F n w a0 x3 x4 = some r → zg X D G A (zg_Q X D G A 128 0 (zr_i r)) 128 0 w 164 [some (va_rf (some a0)), none, none, some (.int x3), some (.int x4)] [] := by
  intro n
  induction n with
  | zero =>
    intro w a0 x3 x4 h
    unfold zf_Mo_call_L164 at h
    cases h
  | succ n ih =>
    intro w a0 x3 x4 h
    rw [zf_Mo_call_L164] at h
    refine zg_iload hX dMo_call_164 rfl ?_
    refine zg_aload_n (x := (some a0)) hX dMo_call_166 rfl ?_
    refine zg_getI (ci := 9) (k := 12) hc_9 (by decide) (by decide) hin_9 zx_634 ft_9_12 hX dMo_call_167 h (fun a167 h => ?_)
    refine zg_icmp_ge (tgt := 198) hX dMo_call_170 rfl h (fun h => ?_) (fun h => ?_)
    · refine zg_aload_n (x := (some a0)) hX dMo_call_198 rfl ?_
      refine zg_getR (ci := 9) (k := 10) hc_9 (by decide) (by decide) hin_9 zx_632 ft_9_10 hX dMo_call_199 h (fun a199 h => ?_)
      refine zg_iload_n hX dMo_call_202 rfl ?_
      refine zg_iconst hX dMo_call_203 (1 : Int32) (by decide) ?_
      refine zg_zast (kd := 200) (by decide) (by decide) hX dMo_call_204 h (fun w204 h => ?_)
      refine zg_aload_n (x := (some a0)) hX dMo_call_205 rfl ?_
      refine zg_iconst hX dMo_call_206 (0 : Int32) (by decide) ?_
      refine zg_putI (ci := 9) (k := 12) hc_9 (by decide) (by decide) hin_9 zx_634 ft_9_12 tyMo okMo nmMo rfl (vp_nar_int _) rfl hX dMo_call_207 h (fun w207 h => ?_)
      refine zg_aload_n (x := (some a0)) hX dMo_call_210 rfl ?_
      refine zg_getR (ci := 9) (k := 7) hc_9 (by decide) (by decide) hin_9 zx_629 ft_9_7 hX dMo_call_211 h (fun a211 h => ?_)
      refine zg_iload_n hX dMo_call_214 rfl ?_
      refine zg_iald (kd := 125) (by decide) (by decide) hX dMo_call_215 h (fun a215 j215 h => ?_)
      cases h
      exact zg_iret hX hr (by decide) dMo_call_216
    · refine zg_aload_n (x := (some a0)) hX dMo_call_173 rfl ?_
      refine zg_getR (ci := 9) (k := 9) hc_9 (by decide) (by decide) hin_9 zx_631 ft_9_9 hX dMo_call_174 h (fun a174 h => ?_)
      refine zg_bipush hX dMo_call_177 (20 : Int32) (by decide) ?_
      refine zg_iload_n hX dMo_call_179 rfl ?_
      refine zg_imul hX dMo_call_180 ?_
      refine zg_iload hX dMo_call_181 rfl ?_
      refine zg_iadd hX dMo_call_183 ?_
      refine zg_aload_n (x := (some a0)) hX dMo_call_184 rfl ?_
      refine zg_getR (ci := 9) (k := 11) hc_9 (by decide) (by decide) hin_9 zx_633 ft_9_11 hX dMo_call_185 h (fun a185 h => ?_)
      refine zg_iload hX dMo_call_188 rfl ?_
      refine zg_iald (kd := 128) (by decide) (by decide) hX dMo_call_190 h (fun a190 j190 h => ?_)
      refine zg_iast (kd := 127) (by decide) (by decide) hX dMo_call_191 h (fun w191 h => ?_)
      refine zg_iinc hX dMo_call_192 (1 : Int32) rfl (by decide) (Nat.le_of_ble_eq_true rfl) rfl h (fun y192 h => ?_)
      refine zg_goto (tgt := 164) hX dMo_call_195 rfl ?_
      exact zg_sub (zl_k (zl_d (zl_d (zl_k (zl_k zl_n))))) (ih w191 a0 x3 y192 h)
set_option maxHeartbeats 4000000 in
set_option maxRecDepth 100000 in
theorem zm_Mo_call_j91 {X : zg_X} {D : va_G} {G : zw_G} {A : Nat → Prop} {F : Nat} {k47 : zw_T → Nat → Int32 → Int32 → Int32 → Option (Int32 × zw_T)} {r : Int32 × zw_T} (hX : zg_ok X cMo_call RMo 5 1 22 128 0 D G A) (hr : zg_rt X = some .int) (hm : zg_nm X = yMo_call.name) (hk47 : ∀ (w : zw_T) (a0 : Nat) (x1 : Int32) (x2 : Int32) (x3 : Int32), k47 w a0 x1 x2 x3 = some r → zg X D G A (zg_Q X D G A 128 0 (zr_i r)) 128 0 w 47 [some (va_rf (some a0)), some (.int x1), some (.int x2), some (.int x3), none] []) (w : zw_T) (a0 : Nat) (x1 : Int32) (x2 : Int32) (x3 : Int32) (h : zf_Mo_call_j91 F k47 w a0 x1 x2 x3 = some r) : zg X D G A (zg_Q X D G A 128 0 (zr_i r)) 128 0 w 91 [some (va_rf (some a0)), some (.int x1), some (.int x2), some (.int x3), none] [] := by
  unfold zf_Mo_call_j91 at h
  refine zg_iinc hX dMo_call_91 (1 : Int32) rfl (by decide) (Nat.le_of_ble_eq_true rfl) rfl h (fun y91 h => ?_)
  refine zg_goto (tgt := 47) hX dMo_call_94 rfl ?_
  exact zg_sub (zl_k (zl_k (zl_k (zl_k (zl_d zl_n))))) (hk47 w a0 x1 x2 y91 h)
set_option maxHeartbeats 4000000 in
set_option maxRecDepth 100000 in
theorem zm_Mo_call_L47 {X : zg_X} {D : va_G} {G : zw_G} {A : Nat → Prop} {F : Nat} {r : Int32 × zw_T} (hX : zg_ok X cMo_call RMo 5 1 22 128 0 D G A) (hr : zg_rt X = some .int) (hm : zg_nm X = yMo_call.name) : ∀ (n : Nat) (w : zw_T) (a0 : Nat) (x1 : Int32) (x2 : Int32) (x3 : Int32), zf_Mo_call_L47 F n w a0 x1 x2 x3 = some r → zg X D G A (zg_Q X D G A 128 0 (zr_i r)) 128 0 w 47 [some (va_rf (some a0)), some (.int x1), some (.int x2), some (.int x3), none] [] := by
  intro n
  induction n with
  | zero =>
    intro w a0 x1 x2 x3 h
    unfold zf_Mo_call_L47 at h
    cases h
  | succ n ih =>
    intro w a0 x1 x2 x3 h
    rw [zf_Mo_call_L47] at h
    refine zg_iload_n hX dMo_call_47 rfl ?_
    refine zg_aload_n (x := (some a0)) hX dMo_call_48 rfl ?_
    refine zg_getI (ci := 9) (k := 12) hc_9 (by decide) (by decide) hin_9 zx_634 ft_9_12 hX dMo_call_49 h (fun a49 h => ?_)
    refine zg_icmp_ge (tgt := 97) hX dMo_call_52 rfl h (fun h => ?_) (fun h => ?_)
    · refine zg_aload_n (x := (some a0)) hX dMo_call_97 rfl ?_
      refine zg_getI (ci := 9) (k := 4) hc_9 (by decide) (by decide) hin_9 zx_626 ft_9_4 hX dMo_call_98 h (fun a98 h => ?_)
      refine zg_istore_n hX dMo_call_101 (Nat.le_of_ble_eq_true rfl) rfl h (fun y101 h => ?_)
      refine zg_aload_n (x := (some a0)) hX dMo_call_102 rfl ?_
      refine zg_dup hX dMo_call_103 rfl ?_
      refine zg_getI (ci := 9) (k := 4) hc_9 (by decide) (by decide) hin_9 zx_626 ft_9_4 hX dMo_call_104 h (fun a104 h => ?_)
      refine zg_iconst hX dMo_call_107 (1 : Int32) (by decide) ?_
      refine zg_iadd hX dMo_call_108 ?_
      refine zg_putI (ci := 9) (k := 4) hc_9 (by decide) (by decide) hin_9 zx_626 ft_9_4 tyMo okMo nmMo rfl (vp_nar_int _) rfl hX dMo_call_109 h (fun w109 h => ?_)
      refine zg_aload_n (x := (some a0)) hX dMo_call_112 rfl ?_
      refine zg_getR (ci := 9) (k := 5) hc_9 (by decide) (by decide) hin_9 zx_627 ft_9_5 hX dMo_call_113 h (fun a113 h => ?_)
      refine zg_iload_n hX dMo_call_116 rfl ?_
      refine zg_iload_n hX dMo_call_117 rfl ?_
      refine zg_iast (kd := 123) (by decide) (by decide) hX dMo_call_118 h (fun w118 h => ?_)
      refine zg_aload_n (x := (some a0)) hX dMo_call_119 rfl ?_
      refine zg_getR (ci := 9) (k := 6) hc_9 (by decide) (by decide) hin_9 zx_628 ft_9_6 hX dMo_call_120 h (fun a120 h => ?_)
      refine zg_iload_n hX dMo_call_123 rfl ?_
      refine zg_iload_n hX dMo_call_124 rfl ?_
      refine zg_iast (kd := 124) (by decide) (by decide) hX dMo_call_125 h (fun w125 h => ?_)
      refine zg_aload_n (x := (some a0)) hX dMo_call_126 rfl ?_
      refine zg_getR (ci := 9) (k := 7) hc_9 (by decide) (by decide) hin_9 zx_629 ft_9_7 hX dMo_call_127 h (fun a127 h => ?_)
      refine zg_iload_n hX dMo_call_130 rfl ?_
      refine zg_aload_n (x := (some a0)) hX dMo_call_131 rfl ?_
      refine zg_getR (ci := 9) (k := 3) hc_9 (by decide) (by decide) hin_9 zx_625 ft_9_3 hX dMo_call_132 h (fun a132 h => ?_)
      refine zg_iload_n hX dMo_call_135 rfl ?_
      refine zg_iald (kd := 122) (by decide) (by decide) hX dMo_call_136 h (fun a136 j136 h => ?_)
      refine zg_bipush hX dMo_call_137 (64 : Int32) (by decide) ?_
      refine zg_irem hX dMo_call_139 (by decide) ?_
      refine zg_iast (kd := 125) (by decide) (by decide) hX dMo_call_140 h (fun w140 h => ?_)
      refine zg_aload_n (x := (some a0)) hX dMo_call_141 rfl ?_
      refine zg_getR (ci := 9) (k := 3) hc_9 (by decide) (by decide) hin_9 zx_625 ft_9_3 hX dMo_call_142 h (fun a142 h => ?_)
      refine zg_iload_n hX dMo_call_145 rfl ?_
      refine zg_dup2 hX dMo_call_146 rfl (zv_cat _) ?_
      refine zg_iald (kd := 122) (by decide) (by decide) hX dMo_call_147 h (fun a147 j147 h => ?_)
      refine zg_iconst hX dMo_call_148 (1 : Int32) (by decide) ?_
      refine zg_iadd hX dMo_call_149 ?_
      refine zg_iast (kd := 122) (by decide) (by decide) hX dMo_call_150 h (fun w150 h => ?_)
      refine zg_aload_n (x := (some a0)) hX dMo_call_151 rfl ?_
      refine zg_getR (ci := 9) (k := 8) hc_9 (by decide) (by decide) hin_9 zx_630 ft_9_8 hX dMo_call_152 h (fun a152 h => ?_)
      refine zg_iload_n hX dMo_call_155 rfl ?_
      refine zg_aload_n (x := (some a0)) hX dMo_call_156 rfl ?_
      refine zg_getI (ci := 9) (k := 12) hc_9 (by decide) (by decide) hin_9 zx_634 ft_9_12 hX dMo_call_157 h (fun a157 h => ?_)
      refine zg_iast (kd := 126) (by decide) (by decide) hX dMo_call_160 h (fun w160 h => ?_)
      refine zg_iconst hX dMo_call_161 (0 : Int32) (by decide) ?_
      refine zg_istore hX dMo_call_162 (Nat.le_of_ble_eq_true rfl) rfl h (fun y162 h => ?_)
      exact zg_sub (zl_k (zl_d (zl_d (zl_k (zl_k zl_n))))) (zm_Mo_call_L164 hX hr hm F w160 a0 y101 y162 h)
    · refine zg_aload_n (x := (some a0)) hX dMo_call_55 rfl ?_
      refine zg_getR (ci := 9) (k := 2) hc_9 (by decide) (by decide) hin_9 zx_624 ft_9_2 hX dMo_call_56 h (fun a56 h => ?_)
      refine zg_iload_n hX dMo_call_59 rfl ?_
      refine zg_iald (kd := 121) (by decide) (by decide) hX dMo_call_60 h (fun a60 j60 h => ?_)
      refine zg_if_ne (tgt := 78) hX dMo_call_61 rfl h (fun h => ?_) (fun h => ?_)
      · refine zg_aload_n (x := (some a0)) hX dMo_call_64 rfl ?_
        refine zg_getR (ci := 9) (k := 11) hc_9 (by decide) (by decide) hin_9 zx_633 ft_9_11 hX dMo_call_65 h (fun a65 h => ?_)
        refine zg_iload_n hX dMo_call_68 rfl ?_
        refine zg_iald (kd := 128) (by decide) (by decide) hX dMo_call_69 h (fun a69 j69 h => ?_)
        refine zg_bipush hX dMo_call_70 (11 : Int32) (by decide) ?_
        refine zg_icmp_le (tgt := 91) hX dMo_call_72 rfl h (fun h => ?_) (fun h => ?_)
        · exact zg_sub (zl_k (zl_k (zl_k (zl_k (zl_d zl_n))))) (zm_Mo_call_j91 hX hr hm ih w a0 x1 x2 x3 h)
        · refine zg_goto (tgt := 89) hX dMo_call_75 rfl ?_
          refine zg_iconst hX dMo_call_89 (-1 : Int32) (by decide) ?_
          cases h
          exact zg_iret hX hr (by decide) dMo_call_90
      · refine zg_aload_n (x := (some a0)) hX dMo_call_78 rfl ?_
        refine zg_getR (ci := 9) (k := 11) hc_9 (by decide) (by decide) hin_9 zx_633 ft_9_11 hX dMo_call_79 h (fun a79 h => ?_)
        refine zg_iload_n hX dMo_call_82 rfl ?_
        refine zg_iald (kd := 128) (by decide) (by decide) hX dMo_call_83 h (fun a83 j83 h => ?_)
        refine zg_bipush hX dMo_call_84 (32 : Int32) (by decide) ?_
        refine zg_icmp_ge (tgt := 91) hX dMo_call_86 rfl h (fun h => ?_) (fun h => ?_)
        · exact zg_sub (zl_k (zl_k (zl_k (zl_k (zl_d zl_n))))) (zm_Mo_call_j91 hX hr hm ih w a0 x1 x2 x3 h)
        · refine zg_iconst hX dMo_call_89 (-1 : Int32) (by decide) ?_
          cases h
          exact zg_iret hX hr (by decide) dMo_call_90
set_option maxHeartbeats 4000000 in
set_option maxRecDepth 100000 in
theorem zm_Mo_call (l : Launch) (D : va_G) (G : zw_G) (A : Nat → Prop) (F : Nat) (w : zw_T) (a0 : Nat) (x1 : Int32) (x2 : Int32) (r : Int32 × zw_T) (h : zf_Mo_call F w a0 x1 x2 = some r) : zc l yMo_call wsMo_call 1 22 128 0 D G A [.ref a0, .int x1, .int x2] w (zr_i r) := by
  refine zc_of (ret := some .int) [some (va_rf (some a0)), some (.int x1), some (.int x2), none, none] (plainFor_of_name (by decide +kernel)) rfl (Nat.le_of_ble_eq_true rfl) rfl rfl (fun X hX hr hm => ?_)
  unfold zf_Mo_call at h
  refine zg_aload_n (x := (some a0)) hX dMo_call_0 rfl ?_
  refine zg_iload_n hX dMo_call_1 rfl ?_
  obtain ⟨a2, e2, t2, h⟩ := zf_at_e h
  obtain ⟨v2, w2, q2, h⟩ := zf_bd_e h
  refine zg_callV_i (mcy := 0) (v := v2) (w1 := w2) (st := []) hc_9 (by decide) e2 t2 [.int x1] (fun l => zm_Mo_isIdentity l D G A F w a2 x1 (v2, w2) q2) (zt_V zx_766 zx_768 zs_18 zx_5 zx_769) rfl hd_Mo_isIdentity (by decide) (by decide) (by decide) (Nat.le_of_ble_eq_true rfl) rfl rfl hX dMo_call_2 ?_
  refine zg_if_eq (tgt := 43) hX dMo_call_5 rfl h (fun h => ?_) (fun h => ?_)
  · refine zg_iconst hX dMo_call_43 (-1 : Int32) (by decide) ?_
    cases h
    exact zg_iret hX hr (by decide) dMo_call_44
  · refine zg_iload_n hX dMo_call_8 rfl ?_
    refine zg_if_lt (tgt := 43) hX dMo_call_9 rfl h (fun h => ?_) (fun h => ?_)
    · refine zg_iconst hX dMo_call_43 (-1 : Int32) (by decide) ?_
      cases h
      exact zg_iret hX hr (by decide) dMo_call_44
    · refine zg_iload_n hX dMo_call_12 rfl ?_
      refine zg_iconst hX dMo_call_13 (3 : Int32) (by decide) ?_
      refine zg_icmp_gt (tgt := 43) hX dMo_call_14 rfl h (fun h => ?_) (fun h => ?_)
      · refine zg_iconst hX dMo_call_43 (-1 : Int32) (by decide) ?_
        cases h
        exact zg_iret hX hr (by decide) dMo_call_44
      · refine zg_aload_n (x := (some a0)) hX dMo_call_17 rfl ?_
        refine zg_getI (ci := 9) (k := 12) hc_9 (by decide) (by decide) hin_9 zx_634 ft_9_12 hX dMo_call_18 h (fun a18 h => ?_)
        refine zg_if_eq (tgt := 43) hX dMo_call_21 rfl h (fun h => ?_) (fun h => ?_)
        · refine zg_iconst hX dMo_call_43 (-1 : Int32) (by decide) ?_
          cases h
          exact zg_iret hX hr (by decide) dMo_call_44
        · refine zg_aload_n (x := (some a0)) hX dMo_call_24 rfl ?_
          obtain ⟨a25, e25, t25, h⟩ := zf_at_e h
          obtain ⟨v25, w25, q25, h⟩ := zf_bd_e h
          refine zg_callV_i (mcy := 0) (v := v25) (w1 := w25) (st := []) hc_9 (by decide) e25 t25 [] (fun l => zm_Mo_waiting l D G A F w2 a25 (v25, w25) q25) (zt_V zx_792 zx_785 zx_786 zx_5 zx_787) rfl hd_Mo_waiting (by decide) (by decide) (by decide) (Nat.le_of_ble_eq_true rfl) rfl rfl hX dMo_call_25 ?_
          refine zg_bipush hX dMo_call_28 (60 : Int32) (by decide) ?_
          refine zg_icmp_eq (tgt := 43) hX dMo_call_30 rfl h (fun h => ?_) (fun h => ?_)
          · refine zg_iconst hX dMo_call_43 (-1 : Int32) (by decide) ?_
            cases h
            exact zg_iret hX hr (by decide) dMo_call_44
          · refine zg_aload_n (x := (some a0)) hX dMo_call_33 rfl ?_
            refine zg_getI (ci := 9) (k := 4) hc_9 (by decide) (by decide) hin_9 zx_626 ft_9_4 hX dMo_call_34 h (fun a34 h => ?_)
            refine zg_sipush hX dMo_call_37 (200 : Int32) (by decide) ?_
            refine zg_icmp_ne (tgt := 45) hX dMo_call_40 rfl h (fun h => ?_) (fun h => ?_)
            · refine zg_iconst hX dMo_call_43 (-1 : Int32) (by decide) ?_
              cases h
              exact zg_iret hX hr (by decide) dMo_call_44
            · refine zg_iconst hX dMo_call_45 (0 : Int32) (by decide) ?_
              refine zg_istore_n hX dMo_call_46 (Nat.le_of_ble_eq_true rfl) rfl h (fun y46 h => ?_)
              exact zg_sub (zl_k (zl_k (zl_k (zl_k (zl_d zl_n))))) (zm_Mo_call_L47 hX hr hm F w25 a0 x1 x2 y46 h)
