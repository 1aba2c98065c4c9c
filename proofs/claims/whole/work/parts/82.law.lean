/-! the law: its body over any relation of the two memories that every call keeps -/
theorem zg_eqi {X : zg_X} {D : va_G} {G : zw_G} {A : Nat → Prop} {Q : State → Prop} {sf ck : Nat} {w : zw_T} {pc : Nat} {lv : List (Option Value)} {st : List Value} {x y : Int32} (h : x = y) (k : zg X D G A Q sf ck w pc lv (.int y :: st)) : zg X D G A Q sf ck w pc lv (.int x :: st) := by
  subst h
  exact k
theorem zg_lt {X : zg_X} {D : va_G} {G : zw_G} {A : Nat → Prop} {Q : State → Prop} {sf ck : Nat} {w : zw_T} {pc : Nat} {lv : List (Option Value)} {st : List Value} (k : (∀ a, (zw_ty w a).1 ≠ 0 → a < zw_n w) → zg X D G A Q sf ck w pc lv st) : zg X D G A Q sf ck w pc lv st := by
  obtain ⟨p, l, e, R, s, m, args, below, meth, c⟩ := X
  intro H locs ls h1 h2 h3
  exact k (fun a ha => by rw [← h2.1]; exact (h2.2 a ha).1.lt) H locs ls h1 h2 h3
theorem zg_tswI {X : zg_X} {D : va_G} {G : zw_G} {A : Nat → Prop} {Q : State → Prop} {sf ck : Nat} {w : zw_T} {pc : Nat} {lv : List (Option Value)} {st : List Value} {cc : ByteArray} {own : String} {nL fr lo mc : Nat} {od lw hi off : Int} {offs : Array Int} {len tgt : Nat} {x : Int32} (hX : zg_ok X cc own nL fr lo sf mc D G A) (hd : decode cc pc = .ok (.tableswitch od lw hi offs, len)) (h1 : ¬ x.toInt < lw) (h2 : ¬ hi < x.toInt) (hq : offs[(x.toInt - lw).toNat]? = some off) (ht : (pc : Int) + off = (tgt : Int)) (k : zg X D G A Q sf ck w tgt lv st) : zg X D G A Q sf ck w pc lv (.int x :: st) := by
  obtain ⟨p, l, e, R, s, m, args, below, meth, c⟩ := X
  obtain ⟨hx, hb, hml, ho, hts, hK, hA, hlk, hfr, hR1, hR2, hlo, hZ⟩ := hX
  intro H locs ls g1 g2 g3
  exact lv_tableIn hx hb hd h1 h2 hq ht (k H locs ls g1 g2 g3)
theorem zg_tswO {X : zg_X} {D : va_G} {G : zw_G} {A : Nat → Prop} {Q : State → Prop} {sf ck : Nat} {w : zw_T} {pc : Nat} {lv : List (Option Value)} {st : List Value} {cc : ByteArray} {own : String} {nL fr lo mc : Nat} {od lw hi : Int} {offs : Array Int} {len tgt : Nat} {x : Int32} (hX : zg_ok X cc own nL fr lo sf mc D G A) (hd : decode cc pc = .ok (.tableswitch od lw hi offs, len)) (h1 : x.toInt < lw ∨ hi < x.toInt) (ht : (pc : Int) + od = (tgt : Int)) (k : zg X D G A Q sf ck w tgt lv st) : zg X D G A Q sf ck w pc lv (.int x :: st) := by
  obtain ⟨p, l, e, R, s, m, args, below, meth, c⟩ := X
  obtain ⟨hx, hb, hml, ho, hts, hK, hA, hlk, hfr, hR1, hR2, hlo, hZ⟩ := hX
  intro H locs ls g1 g2 g3
  exact lv_tableOut hx hb hd h1 ht (k H locs ls g1 g2 g3)
def zo_B (w : zw_T) : Prop := ∀ a, (zw_ty w a).1 ≠ 0 → a < zw_n w
/-- a call: the class answers, the model answers the same, and the relation stays -/
def zo_1 {α : Type} (S : zw_T → zw_T → Prop) (f g : zw_T → Option (α × zw_T)) : Prop := ∀ w1 w2, S w1 w2 → zo_B w1 → ∃ v w1', f w1 = some (v, w1') ∧ ∀ n, ∃ w2', g (zw_mv w2 n) = some (v, w2') ∧ S w1' w2'
theorem zo_Bu {w1 w2 : zw_T} (h : ∀ a, (zw_ty (zw_U w1 w2) a).1 ≠ 0 → a < zw_n (zw_U w1 w2)) : zo_B w1 := fun a ha => h a (by rw [zw_U1t ha]; exact ha)
def zo_lv (b x m : Nat) (i : Nat) : List (Option Value) := [some (va_rf (some b)), some (va_rf (some x)), some (va_rf (some m)), some (.int (nI i))]
set_option maxHeartbeats 4000000 in
set_option maxRecDepth 100000 in
theorem zo_c0 {X : zg_X} {D : va_G} {G : zw_G} {A : Nat → Prop} {Q : State → Prop} {S : zw_T → zw_T → Prop} {F b x m L i ck : Nat} {xs : Nat → Int32} {w1 w2 : zw_T} (hX : zg_ok X code "WakingPagersLaw" 4 9 336 128 13000 D G A) (hS : zs_X X A b L xs) (hL : L ≤ 2048) (hi : i + 4 ≤ L) (hdj : zw_dj w1 w2) (hnn : zw_n w2 = zw_n w1) (hx1 : (zw_ty w1 x).1 = 9) (hm1 : (zw_ty w2 m).1 = 10) (hck : ck + 23 ≤ 13000) (hmv : ∀ u1 u2 n, S u1 u2 → S (zw_mv u1 n) u2) (hop : zo_1 S (fun w => zf_WP_code F w x (xs (i + 1))) (fun w => zf_Mo_code F w m (xs (i + 1)))) (hs : S w1 w2) (kk : ∀ u1 u2, S u1 u2 → zw_dj u1 u2 → zw_n u2 = zw_n u1 → zg X D G A Q 128 (ck + 23) (zw_U u1 u2) 692 (zo_lv b x m i) []) : zg X D G A Q 128 ck (zw_U w1 w2) 124 (zo_lv b x m i) [] := by
  refine zg_lt (fun hB => ?_)
  obtain ⟨v1, w1', e1, hcl⟩ := hop w1 w2 hs (zo_Bu hB)
  refine zg_aload_n (x := (some x)) hX dL_124 rfl ?_
  refine zg_aload_n (x := (some b)) hX dL_125 rfl ?_
  refine zg_iload_n hX dL_126 rfl ?_
  refine zg_iconst hX dL_127 (1 : Int32) (by decide) ?_
  refine zg_iadd hX dL_128 ?_
  refine zg_eqi (nI_add i 1) ?_
  refine zg_sld hS (by omega) (by omega) hX dL_129 ?_
  refine zg_VC (sfy := 128) (mcy := 0) (v := some (.int v1)) (w' := w1') (st := []) hdj hnn hc_8 (by decide) hx1 [.int (xs (i + 1))] (fun l => zm_WP_code l D G _ F _ x (xs (i + 1)) (v1, w1') e1) (zt_V zx_128 zx_129 zx_130 zx_1 zx_131) rfl hd_WP_code (by decide) 0 (by decide) (by decide) (by omega) (Nat.le_of_ble_eq_true rfl) rfl rfl hX dL_130 (fun hdj' => ?_)
  obtain ⟨w2', e2, hs'⟩ := hcl (zw_n w1')
  refine zg_aload_n (x := (some m)) hX dL_133 rfl ?_
  refine zg_aload_n (x := (some b)) hX dL_134 rfl ?_
  refine zg_iload_n hX dL_135 rfl ?_
  refine zg_iconst hX dL_136 (1 : Int32) (by decide) ?_
  refine zg_iadd hX dL_137 ?_
  refine zg_eqi (nI_add i 1) ?_
  refine zg_sld hS (by omega) (by omega) hX dL_138 ?_
  refine zg_VM (sfy := 128) (mcy := 0) (v := some (.int v1)) (w' := w2') (st := [.int v1]) hdj' rfl hc_9 (by decide) hm1 [.int (xs (i + 1))] (fun l => zm_Mo_code l D G _ F _ m (xs (i + 1)) (v1, w2') e2) (zt_V zx_734 zx_735 zx_736 zx_5 zx_737) rfl hd_Mo_code (by decide) 0 (by decide) (by decide) (by omega) (Nat.le_of_ble_eq_true rfl) rfl rfl hX dL_139 (fun hdj' => ?_)
  refine zg_icmp_eq (ra := some ()) (rb := none) (r := ()) (tgt := 692) hX dL_142 rfl (if_pos rfl) (fun _ => ?_) (fun q => by cases q)
  exact zg_wide (by omega) (kk (zw_mv w1' (zw_n w2')) w2' (hmv _ _ _ hs') hdj' rfl)
set_option maxHeartbeats 4000000 in
set_option maxRecDepth 100000 in
theorem zo_c1 {X : zg_X} {D : va_G} {G : zw_G} {A : Nat → Prop} {Q : State → Prop} {S : zw_T → zw_T → Prop} {F b x m L i ck : Nat} {xs : Nat → Int32} {w1 w2 : zw_T} (hX : zg_ok X code "WakingPagersLaw" 4 9 336 128 13000 D G A) (hS : zs_X X A b L xs) (hL : L ≤ 2048) (hi : i + 4 ≤ L) (hdj : zw_dj w1 w2) (hnn : zw_n w2 = zw_n w1) (hx1 : (zw_ty w1 x).1 = 9) (hm1 : (zw_ty w2 m).1 = 10) (hck : ck + 23 ≤ 13000) (hmv : ∀ u1 u2 n, S u1 u2 → S (zw_mv u1 n) u2) (hop : zo_1 S (fun w => zf_WP_repair F w x (xs (i + 1))) (fun w => zf_Mo_repair F w m (xs (i + 1)))) (hs : S w1 w2) (kk : ∀ u1 u2, S u1 u2 → zw_dj u1 u2 → zw_n u2 = zw_n u1 → zg X D G A Q 128 (ck + 23) (zw_U u1 u2) 692 (zo_lv b x m i) []) : zg X D G A Q 128 ck (zw_U w1 w2) 147 (zo_lv b x m i) [] := by
  refine zg_lt (fun hB => ?_)
  obtain ⟨v1, w1', e1, hcl⟩ := hop w1 w2 hs (zo_Bu hB)
  refine zg_aload_n (x := (some x)) hX dL_147 rfl ?_
  refine zg_aload_n (x := (some b)) hX dL_148 rfl ?_
  refine zg_iload_n hX dL_149 rfl ?_
  refine zg_iconst hX dL_150 (1 : Int32) (by decide) ?_
  refine zg_iadd hX dL_151 ?_
  refine zg_eqi (nI_add i 1) ?_
  refine zg_sld hS (by omega) (by omega) hX dL_152 ?_
  refine zg_VC (sfy := 128) (mcy := 0) (v := some (.int v1)) (w' := w1') (st := []) hdj hnn hc_8 (by decide) hx1 [.int (xs (i + 1))] (fun l => zm_WP_repair l D G _ F _ x (xs (i + 1)) (v1, w1') e1) (zt_V zx_145 zx_146 zx_147 zx_1 zx_148) rfl hd_WP_repair (by decide) 0 (by decide) (by decide) (by omega) (Nat.le_of_ble_eq_true rfl) rfl rfl hX dL_153 (fun hdj' => ?_)
  obtain ⟨w2', e2, hs'⟩ := hcl (zw_n w1')
  refine zg_aload_n (x := (some m)) hX dL_156 rfl ?_
  refine zg_aload_n (x := (some b)) hX dL_157 rfl ?_
  refine zg_iload_n hX dL_158 rfl ?_
  refine zg_iconst hX dL_159 (1 : Int32) (by decide) ?_
  refine zg_iadd hX dL_160 ?_
  refine zg_eqi (nI_add i 1) ?_
  refine zg_sld hS (by omega) (by omega) hX dL_161 ?_
  refine zg_VM (sfy := 128) (mcy := 0) (v := some (.int v1)) (w' := w2') (st := [.int v1]) hdj' rfl hc_9 (by decide) hm1 [.int (xs (i + 1))] (fun l => zm_Mo_repair l D G _ F _ m (xs (i + 1)) (v1, w2') e2) (zt_V zx_742 zx_743 zx_744 zx_5 zx_745) rfl hd_Mo_repair (by decide) 0 (by decide) (by decide) (by omega) (Nat.le_of_ble_eq_true rfl) rfl rfl hX dL_162 (fun hdj' => ?_)
  refine zg_icmp_eq (ra := some ()) (rb := none) (r := ()) (tgt := 692) hX dL_165 rfl (if_pos rfl) (fun _ => ?_) (fun q => by cases q)
  exact zg_wide (by omega) (kk (zw_mv w1' (zw_n w2')) w2' (hmv _ _ _ hs') hdj' rfl)
set_option maxHeartbeats 4000000 in
set_option maxRecDepth 100000 in
theorem zo_c2 {X : zg_X} {D : va_G} {G : zw_G} {A : Nat → Prop} {Q : State → Prop} {S : zw_T → zw_T → Prop} {F b x m L i ck : Nat} {xs : Nat → Int32} {w1 w2 : zw_T} (hX : zg_ok X code "WakingPagersLaw" 4 9 336 128 13000 D G A) (hS : zs_X X A b L xs) (hL : L ≤ 2048) (hi : i + 4 ≤ L) (hdj : zw_dj w1 w2) (hnn : zw_n w2 = zw_n w1) (hx1 : (zw_ty w1 x).1 = 9) (hm1 : (zw_ty w2 m).1 = 10) (hck : ck + 23 ≤ 13000) (hmv : ∀ u1 u2 n, S u1 u2 → S (zw_mv u1 n) u2) (hop : zo_1 S (fun w => zf_WP_identity F w x (xs (i + 1)) (xs (i + 2))) (fun w => zf_Mo_identity F w m (xs (i + 1)) (xs (i + 2)))) (hs : S w1 w2) (kk : ∀ u1 u2, S u1 u2 → zw_dj u1 u2 → zw_n u2 = zw_n u1 → zg X D G A Q 128 (ck + 23) (zw_U u1 u2) 692 (zo_lv b x m i) []) : zg X D G A Q 128 ck (zw_U w1 w2) 170 (zo_lv b x m i) [] := by
  refine zg_lt (fun hB => ?_)
  obtain ⟨v1, w1', e1, hcl⟩ := hop w1 w2 hs (zo_Bu hB)
  refine zg_aload_n (x := (some x)) hX dL_170 rfl ?_
  refine zg_aload_n (x := (some b)) hX dL_171 rfl ?_
  refine zg_iload_n hX dL_172 rfl ?_
  refine zg_iconst hX dL_173 (1 : Int32) (by decide) ?_
  refine zg_iadd hX dL_174 ?_
  refine zg_eqi (nI_add i 1) ?_
  refine zg_sld hS (by omega) (by omega) hX dL_175 ?_
  refine zg_aload_n (x := (some b)) hX dL_176 rfl ?_
  refine zg_iload_n hX dL_177 rfl ?_
  refine zg_iconst hX dL_178 (2 : Int32) (by decide) ?_
  refine zg_iadd hX dL_179 ?_
  refine zg_eqi (nI_add i 2) ?_
  refine zg_sld hS (by omega) (by omega) hX dL_180 ?_
  refine zg_VC (sfy := 128) (mcy := 1) (v := some (.int v1)) (w' := w1') (st := []) hdj hnn hc_8 (by decide) hx1 [.int (xs (i + 1)), .int (xs (i + 2))] (fun l => zm_WP_identity l D G _ F _ x (xs (i + 1)) (xs (i + 2)) (v1, w1') e1) (zt_V zx_165 zx_166 zx_167 zx_1 zx_168) rfl hd_WP_identity (by decide) 1 (by decide) (by decide) (by omega) (Nat.le_of_ble_eq_true rfl) rfl rfl hX dL_181 (fun hdj' => ?_)
  obtain ⟨w2', e2, hs'⟩ := hcl (zw_n w1')
  refine zg_aload_n (x := (some m)) hX dL_184 rfl ?_
  refine zg_aload_n (x := (some b)) hX dL_185 rfl ?_
  refine zg_iload_n hX dL_186 rfl ?_
  refine zg_iconst hX dL_187 (1 : Int32) (by decide) ?_
  refine zg_iadd hX dL_188 ?_
  refine zg_eqi (nI_add i 1) ?_
  refine zg_sld hS (by omega) (by omega) hX dL_189 ?_
  refine zg_aload_n (x := (some b)) hX dL_190 rfl ?_
  refine zg_iload_n hX dL_191 rfl ?_
  refine zg_iconst hX dL_192 (2 : Int32) (by decide) ?_
  refine zg_iadd hX dL_193 ?_
  refine zg_eqi (nI_add i 2) ?_
  refine zg_sld hS (by omega) (by omega) hX dL_194 ?_
  refine zg_VM (sfy := 128) (mcy := 0) (v := some (.int v1)) (w' := w2') (st := [.int v1]) hdj' rfl hc_9 (by decide) hm1 [.int (xs (i + 1)), .int (xs (i + 2))] (fun l => zm_Mo_identity l D G _ F _ m (xs (i + 1)) (xs (i + 2)) (v1, w2') e2) (zt_V zx_749 zx_750 zx_751 zx_5 zx_752) rfl hd_Mo_identity (by decide) 0 (by decide) (by decide) (by omega) (Nat.le_of_ble_eq_true rfl) rfl rfl hX dL_195 (fun hdj' => ?_)
  refine zg_icmp_eq (ra := some ()) (rb := none) (r := ()) (tgt := 692) hX dL_198 rfl (if_pos rfl) (fun _ => ?_) (fun q => by cases q)
  exact zg_wide (by omega) (kk (zw_mv w1' (zw_n w2')) w2' (hmv _ _ _ hs') hdj' rfl)
set_option maxHeartbeats 4000000 in
set_option maxRecDepth 100000 in
theorem zo_c3 {X : zg_X} {D : va_G} {G : zw_G} {A : Nat → Prop} {Q : State → Prop} {S : zw_T → zw_T → Prop} {F b x m L i ck : Nat} {xs : Nat → Int32} {w1 w2 : zw_T} (hX : zg_ok X code "WakingPagersLaw" 4 9 336 128 13000 D G A) (hS : zs_X X A b L xs) (hL : L ≤ 2048) (hi : i + 4 ≤ L) (hdj : zw_dj w1 w2) (hnn : zw_n w2 = zw_n w1) (hx1 : (zw_ty w1 x).1 = 9) (hm1 : (zw_ty w2 m).1 = 10) (hck : ck + 23 ≤ 13000) (hmv : ∀ u1 u2 n, S u1 u2 → S (zw_mv u1 n) u2) (hop : zo_1 S (fun w => zf_WP_pager F w x) (fun w => zf_Mo_pager F w m)) (hs : S w1 w2) (kk : ∀ u1 u2, S u1 u2 → zw_dj u1 u2 → zw_n u2 = zw_n u1 → zg X D G A Q 128 (ck + 23) (zw_U u1 u2) 692 (zo_lv b x m i) []) : zg X D G A Q 128 ck (zw_U w1 w2) 203 (zo_lv b x m i) [] := by
  refine zg_lt (fun hB => ?_)
  obtain ⟨v1, w1', e1, hcl⟩ := hop w1 w2 hs (zo_Bu hB)
  refine zg_aload_n (x := (some x)) hX dL_203 rfl ?_
  refine zg_VC (sfy := 128) (mcy := 23) (v := some (.int v1)) (w' := w1') (st := []) hdj hnn hc_8 (by decide) hx1 [] (fun l => zm_WP_pager l D G _ F _ x (v1, w1') e1) (zt_V zx_230 zx_231 zx_232 zx_1 zx_233) rfl hd_WP_pager (by decide) 23 (by decide) (by decide) (by omega) (Nat.le_of_ble_eq_true rfl) rfl rfl hX dL_204 (fun hdj' => ?_)
  obtain ⟨w2', e2, hs'⟩ := hcl (zw_n w1')
  refine zg_aload_n (x := (some m)) hX dL_207 rfl ?_
  refine zg_VM (sfy := 128) (mcy := 0) (v := some (.int v1)) (w' := w2') (st := [.int v1]) hdj' rfl hc_9 (by decide) hm1 [] (fun l => zm_Mo_pager l D G _ F _ m (v1, w2') e2) (zt_V zx_754 zx_755 zx_756 zx_5 zx_757) rfl hd_Mo_pager (by decide) 0 (by decide) (by decide) (by omega) (Nat.le_of_ble_eq_true rfl) rfl rfl hX dL_208 (fun hdj' => ?_)
  refine zg_icmp_eq (ra := some ()) (rb := none) (r := ()) (tgt := 692) hX dL_211 rfl (if_pos rfl) (fun _ => ?_) (fun q => by cases q)
  exact zg_wide (by omega) (kk (zw_mv w1' (zw_n w2')) w2' (hmv _ _ _ hs') hdj' rfl)
set_option maxHeartbeats 4000000 in
set_option maxRecDepth 100000 in
theorem zo_c4 {X : zg_X} {D : va_G} {G : zw_G} {A : Nat → Prop} {Q : State → Prop} {S : zw_T → zw_T → Prop} {F b x m L i ck : Nat} {xs : Nat → Int32} {w1 w2 : zw_T} (hX : zg_ok X code "WakingPagersLaw" 4 9 336 128 13000 D G A) (hS : zs_X X A b L xs) (hL : L ≤ 2048) (hi : i + 4 ≤ L) (hdj : zw_dj w1 w2) (hnn : zw_n w2 = zw_n w1) (hx1 : (zw_ty w1 x).1 = 9) (hm1 : (zw_ty w2 m).1 = 10) (hck : ck + 23 ≤ 13000) (hmv : ∀ u1 u2 n, S u1 u2 → S (zw_mv u1 n) u2) (hop : zo_1 S (fun w => zf_WP_join F w x (xs (i + 1)) (xs (i + 2))) (fun w => zf_Mo_join F w m (xs (i + 1)) (xs (i + 2)))) (hs : S w1 w2) (kk : ∀ u1 u2, S u1 u2 → zw_dj u1 u2 → zw_n u2 = zw_n u1 → zg X D G A Q 128 (ck + 23) (zw_U u1 u2) 692 (zo_lv b x m i) []) : zg X D G A Q 128 ck (zw_U w1 w2) 216 (zo_lv b x m i) [] := by
  refine zg_lt (fun hB => ?_)
  obtain ⟨v1, w1', e1, hcl⟩ := hop w1 w2 hs (zo_Bu hB)
  refine zg_aload_n (x := (some x)) hX dL_216 rfl ?_
  refine zg_aload_n (x := (some b)) hX dL_217 rfl ?_
  refine zg_iload_n hX dL_218 rfl ?_
  refine zg_iconst hX dL_219 (1 : Int32) (by decide) ?_
  refine zg_iadd hX dL_220 ?_
  refine zg_eqi (nI_add i 1) ?_
  refine zg_sld hS (by omega) (by omega) hX dL_221 ?_
  refine zg_aload_n (x := (some b)) hX dL_222 rfl ?_
  refine zg_iload_n hX dL_223 rfl ?_
  refine zg_iconst hX dL_224 (2 : Int32) (by decide) ?_
  refine zg_iadd hX dL_225 ?_
  refine zg_eqi (nI_add i 2) ?_
  refine zg_sld hS (by omega) (by omega) hX dL_226 ?_
  refine zg_VC (sfy := 128) (mcy := 1) (v := some (.int v1)) (w' := w1') (st := []) hdj hnn hc_8 (by decide) hx1 [.int (xs (i + 1)), .int (xs (i + 2))] (fun l => zm_WP_join l D G _ F _ x (xs (i + 1)) (xs (i + 2)) (v1, w1') e1) (zt_V zx_312 zx_313 zx_314 zx_1 zx_315) rfl hd_WP_join (by decide) 1 (by decide) (by decide) (by omega) (Nat.le_of_ble_eq_true rfl) rfl rfl hX dL_227 (fun hdj' => ?_)
  obtain ⟨w2', e2, hs'⟩ := hcl (zw_n w1')
  refine zg_aload_n (x := (some m)) hX dL_230 rfl ?_
  refine zg_aload_n (x := (some b)) hX dL_231 rfl ?_
  refine zg_iload_n hX dL_232 rfl ?_
  refine zg_iconst hX dL_233 (1 : Int32) (by decide) ?_
  refine zg_iadd hX dL_234 ?_
  refine zg_eqi (nI_add i 1) ?_
  refine zg_sld hS (by omega) (by omega) hX dL_235 ?_
  refine zg_aload_n (x := (some b)) hX dL_236 rfl ?_
  refine zg_iload_n hX dL_237 rfl ?_
  refine zg_iconst hX dL_238 (2 : Int32) (by decide) ?_
  refine zg_iadd hX dL_239 ?_
  refine zg_eqi (nI_add i 2) ?_
  refine zg_sld hS (by omega) (by omega) hX dL_240 ?_
  refine zg_VM (sfy := 128) (mcy := 0) (v := some (.int v1)) (w' := w2') (st := [.int v1]) hdj' rfl hc_9 (by decide) hm1 [.int (xs (i + 1)), .int (xs (i + 2))] (fun l => zm_Mo_join l D G _ F _ m (xs (i + 1)) (xs (i + 2)) (v1, w2') e2) (zt_V zx_758 zx_759 zx_760 zx_5 zx_761) rfl hd_Mo_join (by decide) 0 (by decide) (by decide) (by omega) (Nat.le_of_ble_eq_true rfl) rfl rfl hX dL_241 (fun hdj' => ?_)
  refine zg_icmp_eq (ra := some ()) (rb := none) (r := ()) (tgt := 692) hX dL_244 rfl (if_pos rfl) (fun _ => ?_) (fun q => by cases q)
  exact zg_wide (by omega) (kk (zw_mv w1' (zw_n w2')) w2' (hmv _ _ _ hs') hdj' rfl)
set_option maxHeartbeats 4000000 in
set_option maxRecDepth 100000 in
theorem zo_c5 {X : zg_X} {D : va_G} {G : zw_G} {A : Nat → Prop} {Q : State → Prop} {S : zw_T → zw_T → Prop} {F b x m L i ck : Nat} {xs : Nat → Int32} {w1 w2 : zw_T} (hX : zg_ok X code "WakingPagersLaw" 4 9 336 128 13000 D G A) (hS : zs_X X A b L xs) (hL : L ≤ 2048) (hi : i + 4 ≤ L) (hdj : zw_dj w1 w2) (hnn : zw_n w2 = zw_n w1) (hx1 : (zw_ty w1 x).1 = 9) (hm1 : (zw_ty w2 m).1 = 10) (hck : ck + 23 ≤ 13000) (hmv : ∀ u1 u2 n, S u1 u2 → S (zw_mv u1 n) u2) (hop : zo_1 S (fun w => zf_WP_load F w x ((zi_lshl (Int32.toInt64 (xs (i + 1))) (32 : Int32)) ||| ((Int32.toInt64 (xs (i + 2))) &&& (4294967295 : Int64))) (xs (i + 3))) (fun w => zf_Mo_load F w m ((zi_lshl (Int32.toInt64 (xs (i + 1))) (32 : Int32)) ||| ((Int32.toInt64 (xs (i + 2))) &&& (4294967295 : Int64))) (xs (i + 3)))) (hs : S w1 w2) (kk : ∀ u1 u2, S u1 u2 → zw_dj u1 u2 → zw_n u2 = zw_n u1 → zg X D G A Q 128 (ck + 23) (zw_U u1 u2) 692 (zo_lv b x m i) []) : zg X D G A Q 128 ck (zw_U w1 w2) 249 (zo_lv b x m i) [] := by
  refine zg_lt (fun hB => ?_)
  obtain ⟨v1, w1', e1, hcl⟩ := hop w1 w2 hs (zo_Bu hB)
  refine zg_aload_n (x := (some x)) hX dL_249 rfl ?_
  refine zg_aload_n (x := (some b)) hX dL_250 rfl ?_
  refine zg_iload_n hX dL_251 rfl ?_
  refine zg_iconst hX dL_252 (1 : Int32) (by decide) ?_
  refine zg_iadd hX dL_253 ?_
  refine zg_eqi (nI_add i 1) ?_
  refine zg_sld hS (by omega) (by omega) hX dL_254 ?_
  refine zg_i2l hX dL_255 ?_
  refine zg_bipush hX dL_256 (32 : Int32) (by decide) ?_
  refine zg_lshl hX dL_258 ?_
  refine zg_aload_n (x := (some b)) hX dL_259 rfl ?_
  refine zg_iload_n hX dL_260 rfl ?_
  refine zg_iconst hX dL_261 (2 : Int32) (by decide) ?_
  refine zg_iadd hX dL_262 ?_
  refine zg_eqi (nI_add i 2) ?_
  refine zg_sld hS (by omega) (by omega) hX dL_263 ?_
  refine zg_i2l hX dL_264 ?_
  refine zg_ldc2 hX dL_265 (4294967295 : Int64) zx_926 ?_
  refine zg_land hX dL_268 ?_
  refine zg_lor hX dL_269 ?_
  refine zg_aload_n (x := (some b)) hX dL_270 rfl ?_
  refine zg_iload_n hX dL_271 rfl ?_
  refine zg_iconst hX dL_272 (3 : Int32) (by decide) ?_
  refine zg_iadd hX dL_273 ?_
  refine zg_eqi (nI_add i 3) ?_
  refine zg_sld hS (by omega) (by omega) hX dL_274 ?_
  refine zg_VC (sfy := 128) (mcy := 0) (v := some (.int v1)) (w' := w1') (st := []) hdj hnn hc_8 (by decide) hx1 [.long ((zi_lshl (Int32.toInt64 (xs (i + 1))) (32 : Int32)) ||| ((Int32.toInt64 (xs (i + 2))) &&& (4294967295 : Int64))), .int (xs (i + 3))] (fun l => zm_WP_load l D G _ F _ x ((zi_lshl (Int32.toInt64 (xs (i + 1))) (32 : Int32)) ||| ((Int32.toInt64 (xs (i + 2))) &&& (4294967295 : Int64))) (xs (i + 3)) (v1, w1') e1) (zt_V zx_350 zx_351 zx_352 zx_1 zx_353) rfl hd_WP_load (by decide) 0 (by decide) (by decide) (by omega) (Nat.le_of_ble_eq_true rfl) rfl rfl hX dL_275 (fun hdj' => ?_)
  obtain ⟨w2', e2, hs'⟩ := hcl (zw_n w1')
  refine zg_aload_n (x := (some m)) hX dL_278 rfl ?_
  refine zg_aload_n (x := (some b)) hX dL_279 rfl ?_
  refine zg_iload_n hX dL_280 rfl ?_
  refine zg_iconst hX dL_281 (1 : Int32) (by decide) ?_
  refine zg_iadd hX dL_282 ?_
  refine zg_eqi (nI_add i 1) ?_
  refine zg_sld hS (by omega) (by omega) hX dL_283 ?_
  refine zg_i2l hX dL_284 ?_
  refine zg_bipush hX dL_285 (32 : Int32) (by decide) ?_
  refine zg_lshl hX dL_287 ?_
  refine zg_aload_n (x := (some b)) hX dL_288 rfl ?_
  refine zg_iload_n hX dL_289 rfl ?_
  refine zg_iconst hX dL_290 (2 : Int32) (by decide) ?_
  refine zg_iadd hX dL_291 ?_
  refine zg_eqi (nI_add i 2) ?_
  refine zg_sld hS (by omega) (by omega) hX dL_292 ?_
  refine zg_i2l hX dL_293 ?_
  refine zg_ldc2 hX dL_294 (4294967295 : Int64) zx_926 ?_
  refine zg_land hX dL_297 ?_
  refine zg_lor hX dL_298 ?_
  refine zg_aload_n (x := (some b)) hX dL_299 rfl ?_
  refine zg_iload_n hX dL_300 rfl ?_
  refine zg_iconst hX dL_301 (3 : Int32) (by decide) ?_
  refine zg_iadd hX dL_302 ?_
  refine zg_eqi (nI_add i 3) ?_
  refine zg_sld hS (by omega) (by omega) hX dL_303 ?_
  refine zg_VM (sfy := 128) (mcy := 0) (v := some (.int v1)) (w' := w2') (st := [.int v1]) hdj' rfl hc_9 (by decide) hm1 [.long ((zi_lshl (Int32.toInt64 (xs (i + 1))) (32 : Int32)) ||| ((Int32.toInt64 (xs (i + 2))) &&& (4294967295 : Int64))), .int (xs (i + 3))] (fun l => zm_Mo_load l D G _ F _ m ((zi_lshl (Int32.toInt64 (xs (i + 1))) (32 : Int32)) ||| ((Int32.toInt64 (xs (i + 2))) &&& (4294967295 : Int64))) (xs (i + 3)) (v1, w2') e2) (zt_V zx_774 zx_775 zx_776 zx_5 zx_777) rfl hd_Mo_load (by decide) 0 (by decide) (by decide) (by omega) (Nat.le_of_ble_eq_true rfl) rfl rfl hX dL_304 (fun hdj' => ?_)
  refine zg_icmp_eq (ra := some ()) (rb := none) (r := ()) (tgt := 692) hX dL_307 rfl (if_pos rfl) (fun _ => ?_) (fun q => by cases q)
  exact zg_wide (by omega) (kk (zw_mv w1' (zw_n w2')) w2' (hmv _ _ _ hs') hdj' rfl)
set_option maxHeartbeats 4000000 in
set_option maxRecDepth 100000 in
theorem zo_c6 {X : zg_X} {D : va_G} {G : zw_G} {A : Nat → Prop} {Q : State → Prop} {S : zw_T → zw_T → Prop} {F b x m L i ck : Nat} {xs : Nat → Int32} {w1 w2 : zw_T} (hX : zg_ok X code "WakingPagersLaw" 4 9 336 128 13000 D G A) (hS : zs_X X A b L xs) (hL : L ≤ 2048) (hi : i + 4 ≤ L) (hdj : zw_dj w1 w2) (hnn : zw_n w2 = zw_n w1) (hx1 : (zw_ty w1 x).1 = 9) (hm1 : (zw_ty w2 m).1 = 10) (hck : ck + 23 ≤ 13000) (hmv : ∀ u1 u2 n, S u1 u2 → S (zw_mv u1 n) u2) (hop : zo_1 S (fun w => zf_WP_unload F w x) (fun w => zf_Mo_unload F w m)) (hs : S w1 w2) (kk : ∀ u1 u2, S u1 u2 → zw_dj u1 u2 → zw_n u2 = zw_n u1 → zg X D G A Q 128 (ck + 23) (zw_U u1 u2) 692 (zo_lv b x m i) []) : zg X D G A Q 128 ck (zw_U w1 w2) 312 (zo_lv b x m i) [] := by
  refine zg_lt (fun hB => ?_)
  obtain ⟨v1, w1', e1, hcl⟩ := hop w1 w2 hs (zo_Bu hB)
  refine zg_aload_n (x := (some x)) hX dL_312 rfl ?_
  refine zg_VC (sfy := 128) (mcy := 0) (v := some (.int v1)) (w' := w1') (st := []) hdj hnn hc_8 (by decide) hx1 [] (fun l => zm_WP_unload l D G _ F _ x (v1, w1') e1) (zt_V zx_357 zx_358 zx_359 zx_1 zx_360) rfl hd_WP_unload (by decide) 0 (by decide) (by decide) (by omega) (Nat.le_of_ble_eq_true rfl) rfl rfl hX dL_313 (fun hdj' => ?_)
  obtain ⟨w2', e2, hs'⟩ := hcl (zw_n w1')
  refine zg_aload_n (x := (some m)) hX dL_316 rfl ?_
  refine zg_VM (sfy := 128) (mcy := 0) (v := some (.int v1)) (w' := w2') (st := [.int v1]) hdj' rfl hc_9 (by decide) hm1 [] (fun l => zm_Mo_unload l D G _ F _ m (v1, w2') e2) (zt_V zx_780 zx_781 zx_782 zx_5 zx_783) rfl hd_Mo_unload (by decide) 0 (by decide) (by decide) (by omega) (Nat.le_of_ble_eq_true rfl) rfl rfl hX dL_317 (fun hdj' => ?_)
  refine zg_icmp_eq (ra := some ()) (rb := none) (r := ()) (tgt := 692) hX dL_320 rfl (if_pos rfl) (fun _ => ?_) (fun q => by cases q)
  exact zg_wide (by omega) (kk (zw_mv w1' (zw_n w2')) w2' (hmv _ _ _ hs') hdj' rfl)
set_option maxHeartbeats 4000000 in
set_option maxRecDepth 100000 in
theorem zo_c7 {X : zg_X} {D : va_G} {G : zw_G} {A : Nat → Prop} {Q : State → Prop} {S : zw_T → zw_T → Prop} {F b x m L i ck : Nat} {xs : Nat → Int32} {w1 w2 : zw_T} (hX : zg_ok X code "WakingPagersLaw" 4 9 336 128 13000 D G A) (hS : zs_X X A b L xs) (hL : L ≤ 2048) (hi : i + 4 ≤ L) (hdj : zw_dj w1 w2) (hnn : zw_n w2 = zw_n w1) (hx1 : (zw_ty w1 x).1 = 9) (hm1 : (zw_ty w2 m).1 = 10) (hck : ck + 23 ≤ 13000) (hmv : ∀ u1 u2 n, S u1 u2 → S (zw_mv u1 n) u2) (hop : zo_1 S (fun w => zf_WP_call F w x (xs (i + 1)) (xs (i + 2))) (fun w => zf_Mo_call F w m (xs (i + 1)) (xs (i + 2)))) (hs : S w1 w2) (kk : ∀ u1 u2, S u1 u2 → zw_dj u1 u2 → zw_n u2 = zw_n u1 → zg X D G A Q 128 (ck + 23) (zw_U u1 u2) 692 (zo_lv b x m i) []) : zg X D G A Q 128 ck (zw_U w1 w2) 325 (zo_lv b x m i) [] := by
  refine zg_lt (fun hB => ?_)
  obtain ⟨v1, w1', e1, hcl⟩ := hop w1 w2 hs (zo_Bu hB)
  refine zg_aload_n (x := (some x)) hX dL_325 rfl ?_
  refine zg_aload_n (x := (some b)) hX dL_326 rfl ?_
  refine zg_iload_n hX dL_327 rfl ?_
  refine zg_iconst hX dL_328 (1 : Int32) (by decide) ?_
  refine zg_iadd hX dL_329 ?_
  refine zg_eqi (nI_add i 1) ?_
  refine zg_sld hS (by omega) (by omega) hX dL_330 ?_
  refine zg_aload_n (x := (some b)) hX dL_331 rfl ?_
  refine zg_iload_n hX dL_332 rfl ?_
  refine zg_iconst hX dL_333 (2 : Int32) (by decide) ?_
  refine zg_iadd hX dL_334 ?_
  refine zg_eqi (nI_add i 2) ?_
  refine zg_sld hS (by omega) (by omega) hX dL_335 ?_
  refine zg_VC (sfy := 128) (mcy := 3) (v := some (.int v1)) (w' := w1') (st := []) hdj hnn hc_8 (by decide) hx1 [.int (xs (i + 1)), .int (xs (i + 2))] (fun l => zm_WP_call l D G _ F _ x (xs (i + 1)) (xs (i + 2)) (v1, w1') e1) (zt_V zx_361 zx_362 zx_363 zx_1 zx_364) rfl hd_WP_call (by decide) 3 (by decide) (by decide) (by omega) (Nat.le_of_ble_eq_true rfl) rfl rfl hX dL_336 (fun hdj' => ?_)
  obtain ⟨w2', e2, hs'⟩ := hcl (zw_n w1')
  refine zg_aload_n (x := (some m)) hX dL_339 rfl ?_
  refine zg_aload_n (x := (some b)) hX dL_340 rfl ?_
  refine zg_iload_n hX dL_341 rfl ?_
  refine zg_iconst hX dL_342 (1 : Int32) (by decide) ?_
  refine zg_iadd hX dL_343 ?_
  refine zg_eqi (nI_add i 1) ?_
  refine zg_sld hS (by omega) (by omega) hX dL_344 ?_
  refine zg_aload_n (x := (some b)) hX dL_345 rfl ?_
  refine zg_iload_n hX dL_346 rfl ?_
  refine zg_iconst hX dL_347 (2 : Int32) (by decide) ?_
  refine zg_iadd hX dL_348 ?_
  refine zg_eqi (nI_add i 2) ?_
  refine zg_sld hS (by omega) (by omega) hX dL_349 ?_
  refine zg_VM (sfy := 128) (mcy := 0) (v := some (.int v1)) (w' := w2') (st := [.int v1]) hdj' rfl hc_9 (by decide) hm1 [.int (xs (i + 1)), .int (xs (i + 2))] (fun l => zm_Mo_call l D G _ F _ m (xs (i + 1)) (xs (i + 2)) (v1, w2') e2) (zt_V zx_788 zx_789 zx_790 zx_5 zx_791) rfl hd_Mo_call (by decide) 0 (by decide) (by decide) (by omega) (Nat.le_of_ble_eq_true rfl) rfl rfl hX dL_350 (fun hdj' => ?_)
  refine zg_icmp_eq (ra := some ()) (rb := none) (r := ()) (tgt := 692) hX dL_353 rfl (if_pos rfl) (fun _ => ?_) (fun q => by cases q)
  exact zg_wide (by omega) (kk (zw_mv w1' (zw_n w2')) w2' (hmv _ _ _ hs') hdj' rfl)
set_option maxHeartbeats 4000000 in
set_option maxRecDepth 100000 in
theorem zo_c8 {X : zg_X} {D : va_G} {G : zw_G} {A : Nat → Prop} {Q : State → Prop} {S : zw_T → zw_T → Prop} {F b x m L i ck : Nat} {xs : Nat → Int32} {w1 w2 : zw_T} (hX : zg_ok X code "WakingPagersLaw" 4 9 336 128 13000 D G A) (hS : zs_X X A b L xs) (hL : L ≤ 2048) (hi : i + 4 ≤ L) (hdj : zw_dj w1 w2) (hnn : zw_n w2 = zw_n w1) (hx1 : (zw_ty w1 x).1 = 9) (hm1 : (zw_ty w2 m).1 = 10) (hck : ck + 23 ≤ 13000) (hmv : ∀ u1 u2 n, S u1 u2 → S (zw_mv u1 n) u2) (hop : zo_1 S (fun w => zf_WP_waiting F w x) (fun w => zf_Mo_waiting F w m)) (hs : S w1 w2) (kk : ∀ u1 u2, S u1 u2 → zw_dj u1 u2 → zw_n u2 = zw_n u1 → zg X D G A Q 128 (ck + 23) (zw_U u1 u2) 692 (zo_lv b x m i) []) : zg X D G A Q 128 ck (zw_U w1 w2) 358 (zo_lv b x m i) [] := by
  refine zg_lt (fun hB => ?_)
  obtain ⟨v1, w1', e1, hcl⟩ := hop w1 w2 hs (zo_Bu hB)
  refine zg_aload_n (x := (some x)) hX dL_358 rfl ?_
  refine zg_VC (sfy := 128) (mcy := 0) (v := some (.int v1)) (w' := w1') (st := []) hdj hnn hc_8 (by decide) hx1 [] (fun l => zm_WP_waiting l D G _ F _ x (v1, w1') e1) (zt_V zx_432 zx_433 zx_434 zx_1 zx_435) rfl hd_WP_waiting (by decide) 0 (by decide) (by decide) (by omega) (Nat.le_of_ble_eq_true rfl) rfl rfl hX dL_359 (fun hdj' => ?_)
  obtain ⟨w2', e2, hs'⟩ := hcl (zw_n w1')
  refine zg_aload_n (x := (some m)) hX dL_362 rfl ?_
  refine zg_VM (sfy := 128) (mcy := 0) (v := some (.int v1)) (w' := w2') (st := [.int v1]) hdj' rfl hc_9 (by decide) hm1 [] (fun l => zm_Mo_waiting l D G _ F _ m (v1, w2') e2) (zt_V zx_784 zx_785 zx_786 zx_5 zx_787) rfl hd_Mo_waiting (by decide) 0 (by decide) (by decide) (by omega) (Nat.le_of_ble_eq_true rfl) rfl rfl hX dL_363 (fun hdj' => ?_)
  refine zg_icmp_eq (ra := some ()) (rb := none) (r := ()) (tgt := 692) hX dL_366 rfl (if_pos rfl) (fun _ => ?_) (fun q => by cases q)
  exact zg_wide (by omega) (kk (zw_mv w1' (zw_n w2')) w2' (hmv _ _ _ hs') hdj' rfl)
set_option maxHeartbeats 4000000 in
set_option maxRecDepth 100000 in
theorem zo_c9 {X : zg_X} {D : va_G} {G : zw_G} {A : Nat → Prop} {Q : State → Prop} {S : zw_T → zw_T → Prop} {F b x m L i ck : Nat} {xs : Nat → Int32} {w1 w2 : zw_T} (hX : zg_ok X code "WakingPagersLaw" 4 9 336 128 13000 D G A) (hS : zs_X X A b L xs) (hL : L ≤ 2048) (hi : i + 4 ≤ L) (hdj : zw_dj w1 w2) (hnn : zw_n w2 = zw_n w1) (hx1 : (zw_ty w1 x).1 = 9) (hm1 : (zw_ty w2 m).1 = 10) (hck : ck + 23 ≤ 13000) (hmv : ∀ u1 u2 n, S u1 u2 → S (zw_mv u1 n) u2) (hop : zo_1 S (fun w => zf_WP_transmit F w x (xs (i + 1))) (fun w => zf_Mo_transmit F w m (xs (i + 1)))) (hs : S w1 w2) (kk : ∀ u1 u2, S u1 u2 → zw_dj u1 u2 → zw_n u2 = zw_n u1 → zg X D G A Q 128 (ck + 23) (zw_U u1 u2) 692 (zo_lv b x m i) []) : zg X D G A Q 128 ck (zw_U w1 w2) 371 (zo_lv b x m i) [] := by
  refine zg_lt (fun hB => ?_)
  obtain ⟨v1, w1', e1, hcl⟩ := hop w1 w2 hs (zo_Bu hB)
  refine zg_aload_n (x := (some x)) hX dL_371 rfl ?_
  refine zg_aload_n (x := (some b)) hX dL_372 rfl ?_
  refine zg_iload_n hX dL_373 rfl ?_
  refine zg_iconst hX dL_374 (1 : Int32) (by decide) ?_
  refine zg_iadd hX dL_375 ?_
  refine zg_eqi (nI_add i 1) ?_
  refine zg_sld hS (by omega) (by omega) hX dL_376 ?_
  refine zg_VC (sfy := 128) (mcy := 0) (v := some (.int v1)) (w' := w1') (st := []) hdj hnn hc_8 (by decide) hx1 [.int (xs (i + 1))] (fun l => zm_WP_transmit l D G _ F _ x (xs (i + 1)) (v1, w1') e1) (zt_V zx_436 zx_437 zx_438 zx_1 zx_439) rfl hd_WP_transmit (by decide) 0 (by decide) (by decide) (by omega) (Nat.le_of_ble_eq_true rfl) rfl rfl hX dL_377 (fun hdj' => ?_)
  obtain ⟨w2', e2, hs'⟩ := hcl (zw_n w1')
  refine zg_aload_n (x := (some m)) hX dL_380 rfl ?_
  refine zg_aload_n (x := (some b)) hX dL_381 rfl ?_
  refine zg_iload_n hX dL_382 rfl ?_
  refine zg_iconst hX dL_383 (1 : Int32) (by decide) ?_
  refine zg_iadd hX dL_384 ?_
  refine zg_eqi (nI_add i 1) ?_
  refine zg_sld hS (by omega) (by omega) hX dL_385 ?_
  refine zg_VM (sfy := 128) (mcy := 0) (v := some (.int v1)) (w' := w2') (st := [.int v1]) hdj' rfl hc_9 (by decide) hm1 [.int (xs (i + 1))] (fun l => zm_Mo_transmit l D G _ F _ m (xs (i + 1)) (v1, w2') e2) (zt_V zx_793 zx_794 zx_795 zx_5 zx_796) rfl hd_Mo_transmit (by decide) 0 (by decide) (by decide) (by omega) (Nat.le_of_ble_eq_true rfl) rfl rfl hX dL_386 (fun hdj' => ?_)
  refine zg_icmp_eq (ra := some ()) (rb := none) (r := ()) (tgt := 692) hX dL_389 rfl (if_pos rfl) (fun _ => ?_) (fun q => by cases q)
  exact zg_wide (by omega) (kk (zw_mv w1' (zw_n w2')) w2' (hmv _ _ _ hs') hdj' rfl)
set_option maxHeartbeats 4000000 in
set_option maxRecDepth 100000 in
theorem zo_c10 {X : zg_X} {D : va_G} {G : zw_G} {A : Nat → Prop} {Q : State → Prop} {S : zw_T → zw_T → Prop} {F b x m L i ck : Nat} {xs : Nat → Int32} {w1 w2 : zw_T} (hX : zg_ok X code "WakingPagersLaw" 4 9 336 128 13000 D G A) (hS : zs_X X A b L xs) (hL : L ≤ 2048) (hi : i + 4 ≤ L) (hdj : zw_dj w1 w2) (hnn : zw_n w2 = zw_n w1) (hx1 : (zw_ty w1 x).1 = 9) (hm1 : (zw_ty w2 m).1 = 10) (hck : ck + 23 ≤ 13000) (hmv : ∀ u1 u2 n, S u1 u2 → S (zw_mv u1 n) u2) (hop : zo_1 S (fun w => zf_WP_bit F w x (xs (i + 1))) (fun w => zf_Mo_bit F w m (xs (i + 1)))) (hs : S w1 w2) (kk : ∀ u1 u2, S u1 u2 → zw_dj u1 u2 → zw_n u2 = zw_n u1 → zg X D G A Q 128 (ck + 23) (zw_U u1 u2) 692 (zo_lv b x m i) []) : zg X D G A Q 128 ck (zw_U w1 w2) 394 (zo_lv b x m i) [] := by
  refine zg_lt (fun hB => ?_)
  obtain ⟨v1, w1', e1, hcl⟩ := hop w1 w2 hs (zo_Bu hB)
  refine zg_aload_n (x := (some x)) hX dL_394 rfl ?_
  refine zg_aload_n (x := (some b)) hX dL_395 rfl ?_
  refine zg_iload_n hX dL_396 rfl ?_
  refine zg_iconst hX dL_397 (1 : Int32) (by decide) ?_
  refine zg_iadd hX dL_398 ?_
  refine zg_eqi (nI_add i 1) ?_
  refine zg_sld hS (by omega) (by omega) hX dL_399 ?_
  refine zg_VC (sfy := 128) (mcy := 0) (v := some (.int v1)) (w' := w1') (st := []) hdj hnn hc_8 (by decide) hx1 [.int (xs (i + 1))] (fun l => zm_WP_bit l D G _ F _ x (xs (i + 1)) (v1, w1') e1) (zt_V zx_472 zx_473 zx_474 zx_1 zx_475) rfl hd_WP_bit (by decide) 0 (by decide) (by decide) (by omega) (Nat.le_of_ble_eq_true rfl) rfl rfl hX dL_400 (fun hdj' => ?_)
  obtain ⟨w2', e2, hs'⟩ := hcl (zw_n w1')
  refine zg_aload_n (x := (some m)) hX dL_403 rfl ?_
  refine zg_aload_n (x := (some b)) hX dL_404 rfl ?_
  refine zg_iload_n hX dL_405 rfl ?_
  refine zg_iconst hX dL_406 (1 : Int32) (by decide) ?_
  refine zg_iadd hX dL_407 ?_
  refine zg_eqi (nI_add i 1) ?_
  refine zg_sld hS (by omega) (by omega) hX dL_408 ?_
  refine zg_VM (sfy := 128) (mcy := 0) (v := some (.int v1)) (w' := w2') (st := [.int v1]) hdj' rfl hc_9 (by decide) hm1 [.int (xs (i + 1))] (fun l => zm_Mo_bit l D G _ F _ m (xs (i + 1)) (v1, w2') e2) (zt_V zx_832 zx_833 zx_834 zx_5 zx_835) rfl hd_Mo_bit (by decide) 0 (by decide) (by decide) (by omega) (Nat.le_of_ble_eq_true rfl) rfl rfl hX dL_409 (fun hdj' => ?_)
  refine zg_icmp_eq (ra := some ()) (rb := none) (r := ()) (tgt := 692) hX dL_412 rfl (if_pos rfl) (fun _ => ?_) (fun q => by cases q)
  exact zg_wide (by omega) (kk (zw_mv w1' (zw_n w2')) w2' (hmv _ _ _ hs') hdj' rfl)
set_option maxHeartbeats 4000000 in
set_option maxRecDepth 100000 in
theorem zo_c11 {X : zg_X} {D : va_G} {G : zw_G} {A : Nat → Prop} {Q : State → Prop} {S : zw_T → zw_T → Prop} {F b x m L i ck : Nat} {xs : Nat → Int32} {w1 w2 : zw_T} (hX : zg_ok X code "WakingPagersLaw" 4 9 336 128 13000 D G A) (hS : zs_X X A b L xs) (hL : L ≤ 2048) (hi : i + 4 ≤ L) (hdj : zw_dj w1 w2) (hnn : zw_n w2 = zw_n w1) (hx1 : (zw_ty w1 x).1 = 9) (hm1 : (zw_ty w2 m).1 = 10) (hck : ck + 23 ≤ 13000) (hmv : ∀ u1 u2 n, S u1 u2 → S (zw_mv u1 n) u2) (hop : zo_1 S (fun w => zf_WP_flip F w x (xs (i + 1))) (fun w => zf_Mo_flip F w m (xs (i + 1)))) (hs : S w1 w2) (kk : ∀ u1 u2, S u1 u2 → zw_dj u1 u2 → zw_n u2 = zw_n u1 → zg X D G A Q 128 (ck + 23) (zw_U u1 u2) 692 (zo_lv b x m i) []) : zg X D G A Q 128 ck (zw_U w1 w2) 417 (zo_lv b x m i) [] := by
  refine zg_lt (fun hB => ?_)
  obtain ⟨v1, w1', e1, hcl⟩ := hop w1 w2 hs (zo_Bu hB)
  refine zg_aload_n (x := (some x)) hX dL_417 rfl ?_
  refine zg_aload_n (x := (some b)) hX dL_418 rfl ?_
  refine zg_iload_n hX dL_419 rfl ?_
  refine zg_iconst hX dL_420 (1 : Int32) (by decide) ?_
  refine zg_iadd hX dL_421 ?_
  refine zg_eqi (nI_add i 1) ?_
  refine zg_sld hS (by omega) (by omega) hX dL_422 ?_
  refine zg_VC (sfy := 128) (mcy := 0) (v := some (.int v1)) (w' := w1') (st := []) hdj hnn hc_8 (by decide) hx1 [.int (xs (i + 1))] (fun l => zm_WP_flip l D G _ F _ x (xs (i + 1)) (v1, w1') e1) (zt_V zx_484 zx_485 zx_486 zx_1 zx_487) rfl hd_WP_flip (by decide) 0 (by decide) (by decide) (by omega) (Nat.le_of_ble_eq_true rfl) rfl rfl hX dL_423 (fun hdj' => ?_)
  obtain ⟨w2', e2, hs'⟩ := hcl (zw_n w1')
  refine zg_aload_n (x := (some m)) hX dL_426 rfl ?_
  refine zg_aload_n (x := (some b)) hX dL_427 rfl ?_
  refine zg_iload_n hX dL_428 rfl ?_
  refine zg_iconst hX dL_429 (1 : Int32) (by decide) ?_
  refine zg_iadd hX dL_430 ?_
  refine zg_eqi (nI_add i 1) ?_
  refine zg_sld hS (by omega) (by omega) hX dL_431 ?_
  refine zg_VM (sfy := 128) (mcy := 0) (v := some (.int v1)) (w' := w2') (st := [.int v1]) hdj' rfl hc_9 (by decide) hm1 [.int (xs (i + 1))] (fun l => zm_Mo_flip l D G _ F _ m (xs (i + 1)) (v1, w2') e2) (zt_V zx_836 zx_837 zx_838 zx_5 zx_839) rfl hd_Mo_flip (by decide) 0 (by decide) (by decide) (by omega) (Nat.le_of_ble_eq_true rfl) rfl rfl hX dL_432 (fun hdj' => ?_)
  refine zg_icmp_eq (ra := some ()) (rb := none) (r := ()) (tgt := 692) hX dL_435 rfl (if_pos rfl) (fun _ => ?_) (fun q => by cases q)
  exact zg_wide (by omega) (kk (zw_mv w1' (zw_n w2')) w2' (hmv _ _ _ hs') hdj' rfl)
set_option maxHeartbeats 4000000 in
set_option maxRecDepth 100000 in
theorem zo_c12 {X : zg_X} {D : va_G} {G : zw_G} {A : Nat → Prop} {Q : State → Prop} {S : zw_T → zw_T → Prop} {F b x m L i ck : Nat} {xs : Nat → Int32} {w1 w2 : zw_T} (hX : zg_ok X code "WakingPagersLaw" 4 9 336 128 13000 D G A) (hS : zs_X X A b L xs) (hL : L ≤ 2048) (hi : i + 4 ≤ L) (hdj : zw_dj w1 w2) (hnn : zw_n w2 = zw_n w1) (hx1 : (zw_ty w1 x).1 = 9) (hm1 : (zw_ty w2 m).1 = 10) (hck : ck + 23 ≤ 13000) (hmv : ∀ u1 u2 n, S u1 u2 → S (zw_mv u1 n) u2) (hop : zo_1 S (fun w => zf_WP_hear F w x (xs (i + 1)) (xs (i + 2))) (fun w => zf_Mo_hear F w m (xs (i + 1)) (xs (i + 2)))) (hs : S w1 w2) (kk : ∀ u1 u2, S u1 u2 → zw_dj u1 u2 → zw_n u2 = zw_n u1 → zg X D G A Q 128 (ck + 23) (zw_U u1 u2) 692 (zo_lv b x m i) []) : zg X D G A Q 128 ck (zw_U w1 w2) 440 (zo_lv b x m i) [] := by
  refine zg_lt (fun hB => ?_)
  obtain ⟨v1, w1', e1, hcl⟩ := hop w1 w2 hs (zo_Bu hB)
  refine zg_aload_n (x := (some x)) hX dL_440 rfl ?_
  refine zg_aload_n (x := (some b)) hX dL_441 rfl ?_
  refine zg_iload_n hX dL_442 rfl ?_
  refine zg_iconst hX dL_443 (1 : Int32) (by decide) ?_
  refine zg_iadd hX dL_444 ?_
  refine zg_eqi (nI_add i 1) ?_
  refine zg_sld hS (by omega) (by omega) hX dL_445 ?_
  refine zg_aload_n (x := (some b)) hX dL_446 rfl ?_
  refine zg_iload_n hX dL_447 rfl ?_
  refine zg_iconst hX dL_448 (2 : Int32) (by decide) ?_
  refine zg_iadd hX dL_449 ?_
  refine zg_eqi (nI_add i 2) ?_
  refine zg_sld hS (by omega) (by omega) hX dL_450 ?_
  refine zg_VC (sfy := 128) (mcy := 0) (v := some (.int v1)) (w' := w1') (st := []) hdj hnn hc_8 (by decide) hx1 [.int (xs (i + 1)), .int (xs (i + 2))] (fun l => zm_WP_hear l D G _ F _ x (xs (i + 1)) (xs (i + 2)) (v1, w1') e1) (zt_V zx_492 zx_493 zx_494 zx_1 zx_495) rfl hd_WP_hear (by decide) 0 (by decide) (by decide) (by omega) (Nat.le_of_ble_eq_true rfl) rfl rfl hX dL_451 (fun hdj' => ?_)
  obtain ⟨w2', e2, hs'⟩ := hcl (zw_n w1')
  refine zg_aload_n (x := (some m)) hX dL_454 rfl ?_
  refine zg_aload_n (x := (some b)) hX dL_455 rfl ?_
  refine zg_iload_n hX dL_456 rfl ?_
  refine zg_iconst hX dL_457 (1 : Int32) (by decide) ?_
  refine zg_iadd hX dL_458 ?_
  refine zg_eqi (nI_add i 1) ?_
  refine zg_sld hS (by omega) (by omega) hX dL_459 ?_
  refine zg_aload_n (x := (some b)) hX dL_460 rfl ?_
  refine zg_iload_n hX dL_461 rfl ?_
  refine zg_iconst hX dL_462 (2 : Int32) (by decide) ?_
  refine zg_iadd hX dL_463 ?_
  refine zg_eqi (nI_add i 2) ?_
  refine zg_sld hS (by omega) (by omega) hX dL_464 ?_
  refine zg_VM (sfy := 128) (mcy := 0) (v := some (.int v1)) (w' := w2') (st := [.int v1]) hdj' rfl hc_9 (by decide) hm1 [.int (xs (i + 1)), .int (xs (i + 2))] (fun l => zm_Mo_hear l D G _ F _ m (xs (i + 1)) (xs (i + 2)) (v1, w2') e2) (zt_V zx_840 zx_841 zx_842 zx_5 zx_843) rfl hd_Mo_hear (by decide) 0 (by decide) (by decide) (by omega) (Nat.le_of_ble_eq_true rfl) rfl rfl hX dL_465 (fun hdj' => ?_)
  refine zg_icmp_eq (ra := some ()) (rb := none) (r := ()) (tgt := 692) hX dL_468 rfl (if_pos rfl) (fun _ => ?_) (fun q => by cases q)
  exact zg_wide (by omega) (kk (zw_mv w1' (zw_n w2')) w2' (hmv _ _ _ hs') hdj' rfl)
set_option maxHeartbeats 4000000 in
set_option maxRecDepth 100000 in
theorem zo_c13 {X : zg_X} {D : va_G} {G : zw_G} {A : Nat → Prop} {Q : State → Prop} {S : zw_T → zw_T → Prop} {F b x m L i ck : Nat} {xs : Nat → Int32} {w1 w2 : zw_T} (hX : zg_ok X code "WakingPagersLaw" 4 9 336 128 13000 D G A) (hS : zs_X X A b L xs) (hL : L ≤ 2048) (hi : i + 4 ≤ L) (hdj : zw_dj w1 w2) (hnn : zw_n w2 = zw_n w1) (hx1 : (zw_ty w1 x).1 = 9) (hm1 : (zw_ty w2 m).1 = 10) (hck : ck + 23 ≤ 13000) (hmv : ∀ u1 u2 n, S u1 u2 → S (zw_mv u1 n) u2) (hop : zo_1 S (fun w => zf_WP_kept F w x (xs (i + 1))) (fun w => zf_Mo_kept F w m (xs (i + 1)))) (hs : S w1 w2) (kk : ∀ u1 u2, S u1 u2 → zw_dj u1 u2 → zw_n u2 = zw_n u1 → zg X D G A Q 128 (ck + 23) (zw_U u1 u2) 692 (zo_lv b x m i) []) : zg X D G A Q 128 ck (zw_U w1 w2) 473 (zo_lv b x m i) [] := by
  refine zg_lt (fun hB => ?_)
  obtain ⟨v1, w1', e1, hcl⟩ := hop w1 w2 hs (zo_Bu hB)
  refine zg_aload_n (x := (some x)) hX dL_473 rfl ?_
  refine zg_aload_n (x := (some b)) hX dL_474 rfl ?_
  refine zg_iload_n hX dL_475 rfl ?_
  refine zg_iconst hX dL_476 (1 : Int32) (by decide) ?_
  refine zg_iadd hX dL_477 ?_
  refine zg_eqi (nI_add i 1) ?_
  refine zg_sld hS (by omega) (by omega) hX dL_478 ?_
  refine zg_VC (sfy := 128) (mcy := 0) (v := some (.int v1)) (w' := w1') (st := []) hdj hnn hc_8 (by decide) hx1 [.int (xs (i + 1))] (fun l => zm_WP_kept l D G _ F _ x (xs (i + 1)) (v1, w1') e1) (zt_V zx_583 zx_584 zx_585 zx_1 zx_586) rfl hd_WP_kept (by decide) 0 (by decide) (by decide) (by omega) (Nat.le_of_ble_eq_true rfl) rfl rfl hX dL_479 (fun hdj' => ?_)
  obtain ⟨w2', e2, hs'⟩ := hcl (zw_n w1')
  refine zg_aload_n (x := (some m)) hX dL_482 rfl ?_
  refine zg_aload_n (x := (some b)) hX dL_483 rfl ?_
  refine zg_iload_n hX dL_484 rfl ?_
  refine zg_iconst hX dL_485 (1 : Int32) (by decide) ?_
  refine zg_iadd hX dL_486 ?_
  refine zg_eqi (nI_add i 1) ?_
  refine zg_sld hS (by omega) (by omega) hX dL_487 ?_
  refine zg_VM (sfy := 128) (mcy := 0) (v := some (.int v1)) (w' := w2') (st := [.int v1]) hdj' rfl hc_9 (by decide) hm1 [.int (xs (i + 1))] (fun l => zm_Mo_kept l D G _ F _ m (xs (i + 1)) (v1, w2') e2) (zt_V zx_898 zx_899 zx_900 zx_5 zx_901) rfl hd_Mo_kept (by decide) 0 (by decide) (by decide) (by omega) (Nat.le_of_ble_eq_true rfl) rfl rfl hX dL_488 (fun hdj' => ?_)
  refine zg_icmp_eq (ra := some ()) (rb := none) (r := ()) (tgt := 692) hX dL_491 rfl (if_pos rfl) (fun _ => ?_) (fun q => by cases q)
  exact zg_wide (by omega) (kk (zw_mv w1' (zw_n w2')) w2' (hmv _ _ _ hs') hdj' rfl)
set_option maxHeartbeats 4000000 in
set_option maxRecDepth 100000 in
theorem zo_c14 {X : zg_X} {D : va_G} {G : zw_G} {A : Nat → Prop} {Q : State → Prop} {S : zw_T → zw_T → Prop} {F b x m L i ck : Nat} {xs : Nat → Int32} {w1 w2 : zw_T} (hX : zg_ok X code "WakingPagersLaw" 4 9 336 128 13000 D G A) (hS : zs_X X A b L xs) (hL : L ≤ 2048) (hi : i + 4 ≤ L) (hdj : zw_dj w1 w2) (hnn : zw_n w2 = zw_n w1) (hx1 : (zw_ty w1 x).1 = 9) (hm1 : (zw_ty w2 m).1 = 10) (hck : ck + 23 ≤ 13000) (hmv : ∀ u1 u2 n, S u1 u2 → S (zw_mv u1 n) u2) (hop : zo_1 S (fun w => zf_WP_message F w x (xs (i + 1)) (xs (i + 2)) (xs (i + 3))) (fun w => zf_Mo_message F w m (xs (i + 1)) (xs (i + 2)) (xs (i + 3)))) (hs : S w1 w2) (kk : ∀ u1 u2, S u1 u2 → zw_dj u1 u2 → zw_n u2 = zw_n u1 → zg X D G A Q 128 (ck + 23) (zw_U u1 u2) 692 (zo_lv b x m i) []) : zg X D G A Q 128 ck (zw_U w1 w2) 496 (zo_lv b x m i) [] := by
  refine zg_lt (fun hB => ?_)
  obtain ⟨v1, w1', e1, hcl⟩ := hop w1 w2 hs (zo_Bu hB)
  refine zg_aload_n (x := (some x)) hX dL_496 rfl ?_
  refine zg_aload_n (x := (some b)) hX dL_497 rfl ?_
  refine zg_iload_n hX dL_498 rfl ?_
  refine zg_iconst hX dL_499 (1 : Int32) (by decide) ?_
  refine zg_iadd hX dL_500 ?_
  refine zg_eqi (nI_add i 1) ?_
  refine zg_sld hS (by omega) (by omega) hX dL_501 ?_
  refine zg_aload_n (x := (some b)) hX dL_502 rfl ?_
  refine zg_iload_n hX dL_503 rfl ?_
  refine zg_iconst hX dL_504 (2 : Int32) (by decide) ?_
  refine zg_iadd hX dL_505 ?_
  refine zg_eqi (nI_add i 2) ?_
  refine zg_sld hS (by omega) (by omega) hX dL_506 ?_
  refine zg_aload_n (x := (some b)) hX dL_507 rfl ?_
  refine zg_iload_n hX dL_508 rfl ?_
  refine zg_iconst hX dL_509 (3 : Int32) (by decide) ?_
  refine zg_iadd hX dL_510 ?_
  refine zg_eqi (nI_add i 3) ?_
  refine zg_sld hS (by omega) (by omega) hX dL_511 ?_
  refine zg_VC (sfy := 128) (mcy := 0) (v := some (.int v1)) (w' := w1') (st := []) hdj hnn hc_8 (by decide) hx1 [.int (xs (i + 1)), .int (xs (i + 2)), .int (xs (i + 3))] (fun l => zm_WP_message l D G _ F _ x (xs (i + 1)) (xs (i + 2)) (xs (i + 3)) (v1, w1') e1) (zt_V zx_587 zx_588 zx_589 zx_1 zx_590) rfl hd_WP_message (by decide) 0 (by decide) (by decide) (by omega) (Nat.le_of_ble_eq_true rfl) rfl rfl hX dL_512 (fun hdj' => ?_)
  obtain ⟨w2', e2, hs'⟩ := hcl (zw_n w1')
  refine zg_aload_n (x := (some m)) hX dL_515 rfl ?_
  refine zg_aload_n (x := (some b)) hX dL_516 rfl ?_
  refine zg_iload_n hX dL_517 rfl ?_
  refine zg_iconst hX dL_518 (1 : Int32) (by decide) ?_
  refine zg_iadd hX dL_519 ?_
  refine zg_eqi (nI_add i 1) ?_
  refine zg_sld hS (by omega) (by omega) hX dL_520 ?_
  refine zg_aload_n (x := (some b)) hX dL_521 rfl ?_
  refine zg_iload_n hX dL_522 rfl ?_
  refine zg_iconst hX dL_523 (2 : Int32) (by decide) ?_
  refine zg_iadd hX dL_524 ?_
  refine zg_eqi (nI_add i 2) ?_
  refine zg_sld hS (by omega) (by omega) hX dL_525 ?_
  refine zg_aload_n (x := (some b)) hX dL_526 rfl ?_
  refine zg_iload_n hX dL_527 rfl ?_
  refine zg_iconst hX dL_528 (3 : Int32) (by decide) ?_
  refine zg_iadd hX dL_529 ?_
  refine zg_eqi (nI_add i 3) ?_
  refine zg_sld hS (by omega) (by omega) hX dL_530 ?_
  refine zg_VM (sfy := 128) (mcy := 0) (v := some (.int v1)) (w' := w2') (st := [.int v1]) hdj' rfl hc_9 (by decide) hm1 [.int (xs (i + 1)), .int (xs (i + 2)), .int (xs (i + 3))] (fun l => zm_Mo_message l D G _ F _ m (xs (i + 1)) (xs (i + 2)) (xs (i + 3)) (v1, w2') e2) (zt_V zx_902 zx_903 zx_904 zx_5 zx_905) rfl hd_Mo_message (by decide) 0 (by decide) (by decide) (by omega) (Nat.le_of_ble_eq_true rfl) rfl rfl hX dL_531 (fun hdj' => ?_)
  refine zg_icmp_eq (ra := some ()) (rb := none) (r := ()) (tgt := 692) hX dL_534 rfl (if_pos rfl) (fun _ => ?_) (fun q => by cases q)
  exact zg_wide (by omega) (kk (zw_mv w1' (zw_n w2')) w2' (hmv _ _ _ hs') hdj' rfl)
set_option maxHeartbeats 4000000 in
set_option maxRecDepth 100000 in
theorem zo_c15 {X : zg_X} {D : va_G} {G : zw_G} {A : Nat → Prop} {Q : State → Prop} {S : zw_T → zw_T → Prop} {F b x m L i ck : Nat} {xs : Nat → Int32} {w1 w2 : zw_T} (hX : zg_ok X code "WakingPagersLaw" 4 9 336 128 13000 D G A) (hS : zs_X X A b L xs) (hL : L ≤ 2048) (hi : i + 4 ≤ L) (hdj : zw_dj w1 w2) (hnn : zw_n w2 = zw_n w1) (hx1 : (zw_ty w1 x).1 = 9) (hm1 : (zw_ty w2 m).1 = 10) (hck : ck + 23 ≤ 13000) (hmv : ∀ u1 u2 n, S u1 u2 → S (zw_mv u1 n) u2) (hop : zo_1 S (fun w => zf_WP_sign F w x (xs (i + 1)) (xs (i + 2)) (xs (i + 3))) (fun w => zf_Mo_sign F w m (xs (i + 1)) (xs (i + 2)) (xs (i + 3)))) (hs : S w1 w2) (kk : ∀ u1 u2, S u1 u2 → zw_dj u1 u2 → zw_n u2 = zw_n u1 → zg X D G A Q 128 (ck + 23) (zw_U u1 u2) 692 (zo_lv b x m i) []) : zg X D G A Q 128 ck (zw_U w1 w2) 539 (zo_lv b x m i) [] := by
  refine zg_lt (fun hB => ?_)
  obtain ⟨v1, w1', e1, hcl⟩ := hop w1 w2 hs (zo_Bu hB)
  refine zg_aload_n (x := (some x)) hX dL_539 rfl ?_
  refine zg_aload_n (x := (some b)) hX dL_540 rfl ?_
  refine zg_iload_n hX dL_541 rfl ?_
  refine zg_iconst hX dL_542 (1 : Int32) (by decide) ?_
  refine zg_iadd hX dL_543 ?_
  refine zg_eqi (nI_add i 1) ?_
  refine zg_sld hS (by omega) (by omega) hX dL_544 ?_
  refine zg_aload_n (x := (some b)) hX dL_545 rfl ?_
  refine zg_iload_n hX dL_546 rfl ?_
  refine zg_iconst hX dL_547 (2 : Int32) (by decide) ?_
  refine zg_iadd hX dL_548 ?_
  refine zg_eqi (nI_add i 2) ?_
  refine zg_sld hS (by omega) (by omega) hX dL_549 ?_
  refine zg_aload_n (x := (some b)) hX dL_550 rfl ?_
  refine zg_iload_n hX dL_551 rfl ?_
  refine zg_iconst hX dL_552 (3 : Int32) (by decide) ?_
  refine zg_iadd hX dL_553 ?_
  refine zg_eqi (nI_add i 3) ?_
  refine zg_sld hS (by omega) (by omega) hX dL_554 ?_
  refine zg_VC (sfy := 128) (mcy := 0) (v := some (.int v1)) (w' := w1') (st := []) hdj hnn hc_8 (by decide) hx1 [.int (xs (i + 1)), .int (xs (i + 2)), .int (xs (i + 3))] (fun l => zm_WP_sign l D G _ F _ x (xs (i + 1)) (xs (i + 2)) (xs (i + 3)) (v1, w1') e1) (zt_V zx_599 zx_600 zx_601 zx_1 zx_602) rfl hd_WP_sign (by decide) 0 (by decide) (by decide) (by omega) (Nat.le_of_ble_eq_true rfl) rfl rfl hX dL_555 (fun hdj' => ?_)
  obtain ⟨w2', e2, hs'⟩ := hcl (zw_n w1')
  refine zg_aload_n (x := (some m)) hX dL_558 rfl ?_
  refine zg_aload_n (x := (some b)) hX dL_559 rfl ?_
  refine zg_iload_n hX dL_560 rfl ?_
  refine zg_iconst hX dL_561 (1 : Int32) (by decide) ?_
  refine zg_iadd hX dL_562 ?_
  refine zg_eqi (nI_add i 1) ?_
  refine zg_sld hS (by omega) (by omega) hX dL_563 ?_
  refine zg_aload_n (x := (some b)) hX dL_564 rfl ?_
  refine zg_iload_n hX dL_565 rfl ?_
  refine zg_iconst hX dL_566 (2 : Int32) (by decide) ?_
  refine zg_iadd hX dL_567 ?_
  refine zg_eqi (nI_add i 2) ?_
  refine zg_sld hS (by omega) (by omega) hX dL_568 ?_
  refine zg_aload_n (x := (some b)) hX dL_569 rfl ?_
  refine zg_iload_n hX dL_570 rfl ?_
  refine zg_iconst hX dL_571 (3 : Int32) (by decide) ?_
  refine zg_iadd hX dL_572 ?_
  refine zg_eqi (nI_add i 3) ?_
  refine zg_sld hS (by omega) (by omega) hX dL_573 ?_
  refine zg_VM (sfy := 128) (mcy := 0) (v := some (.int v1)) (w' := w2') (st := [.int v1]) hdj' rfl hc_9 (by decide) hm1 [.int (xs (i + 1)), .int (xs (i + 2)), .int (xs (i + 3))] (fun l => zm_Mo_sign l D G _ F _ m (xs (i + 1)) (xs (i + 2)) (xs (i + 3)) (v1, w2') e2) (zt_V zx_910 zx_911 zx_912 zx_5 zx_913) rfl hd_Mo_sign (by decide) 0 (by decide) (by decide) (by omega) (Nat.le_of_ble_eq_true rfl) rfl rfl hX dL_574 (fun hdj' => ?_)
  refine zg_icmp_eq (ra := some ()) (rb := none) (r := ()) (tgt := 692) hX dL_577 rfl (if_pos rfl) (fun _ => ?_) (fun q => by cases q)
  exact zg_wide (by omega) (kk (zw_mv w1' (zw_n w2')) w2' (hmv _ _ _ hs') hdj' rfl)
set_option maxHeartbeats 4000000 in
set_option maxRecDepth 100000 in
theorem zo_c16 {X : zg_X} {D : va_G} {G : zw_G} {A : Nat → Prop} {Q : State → Prop} {S : zw_T → zw_T → Prop} {F b x m L i ck : Nat} {xs : Nat → Int32} {w1 w2 : zw_T} (hX : zg_ok X code "WakingPagersLaw" 4 9 336 128 13000 D G A) (hS : zs_X X A b L xs) (hL : L ≤ 2048) (hi : i + 4 ≤ L) (hdj : zw_dj w1 w2) (hnn : zw_n w2 = zw_n w1) (hx1 : (zw_ty w1 x).1 = 9) (hm1 : (zw_ty w2 m).1 = 10) (hck : ck + 23 ≤ 13000) (hmv : ∀ u1 u2 n, S u1 u2 → S (zw_mv u1 n) u2) (hop : zo_1 S (fun w => zf_WP_missed F w x (xs (i + 1)) (xs (i + 2))) (fun w => zf_Mo_missed F w m (xs (i + 1)) (xs (i + 2)))) (hs : S w1 w2) (kk : ∀ u1 u2, S u1 u2 → zw_dj u1 u2 → zw_n u2 = zw_n u1 → zg X D G A Q 128 (ck + 23) (zw_U u1 u2) 692 (zo_lv b x m i) []) : zg X D G A Q 128 ck (zw_U w1 w2) 582 (zo_lv b x m i) [] := by
  refine zg_lt (fun hB => ?_)
  obtain ⟨v1, w1', e1, hcl⟩ := hop w1 w2 hs (zo_Bu hB)
  refine zg_aload_n (x := (some x)) hX dL_582 rfl ?_
  refine zg_aload_n (x := (some b)) hX dL_583 rfl ?_
  refine zg_iload_n hX dL_584 rfl ?_
  refine zg_iconst hX dL_585 (1 : Int32) (by decide) ?_
  refine zg_iadd hX dL_586 ?_
  refine zg_eqi (nI_add i 1) ?_
  refine zg_sld hS (by omega) (by omega) hX dL_587 ?_
  refine zg_aload_n (x := (some b)) hX dL_588 rfl ?_
  refine zg_iload_n hX dL_589 rfl ?_
  refine zg_iconst hX dL_590 (2 : Int32) (by decide) ?_
  refine zg_iadd hX dL_591 ?_
  refine zg_eqi (nI_add i 2) ?_
  refine zg_sld hS (by omega) (by omega) hX dL_592 ?_
  refine zg_VC (sfy := 128) (mcy := 0) (v := some (.long v1)) (w' := w1') (st := []) hdj hnn hc_8 (by decide) hx1 [.int (xs (i + 1)), .int (xs (i + 2))] (fun l => zm_WP_missed l D G _ F _ x (xs (i + 1)) (xs (i + 2)) (v1, w1') e1) (zt_V zx_603 zx_604 zx_605 zx_1 zx_606) rfl hd_WP_missed (by decide) 0 (by decide) (by decide) (by omega) (Nat.le_of_ble_eq_true rfl) rfl rfl hX dL_593 (fun hdj' => ?_)
  obtain ⟨w2', e2, hs'⟩ := hcl (zw_n w1')
  refine zg_aload_n (x := (some m)) hX dL_596 rfl ?_
  refine zg_aload_n (x := (some b)) hX dL_597 rfl ?_
  refine zg_iload_n hX dL_598 rfl ?_
  refine zg_iconst hX dL_599 (1 : Int32) (by decide) ?_
  refine zg_iadd hX dL_600 ?_
  refine zg_eqi (nI_add i 1) ?_
  refine zg_sld hS (by omega) (by omega) hX dL_601 ?_
  refine zg_aload_n (x := (some b)) hX dL_602 rfl ?_
  refine zg_iload_n hX dL_603 rfl ?_
  refine zg_iconst hX dL_604 (2 : Int32) (by decide) ?_
  refine zg_iadd hX dL_605 ?_
  refine zg_eqi (nI_add i 2) ?_
  refine zg_sld hS (by omega) (by omega) hX dL_606 ?_
  refine zg_VM (sfy := 128) (mcy := 0) (v := some (.long v1)) (w' := w2') (st := [.long v1]) hdj' rfl hc_9 (by decide) hm1 [.int (xs (i + 1)), .int (xs (i + 2))] (fun l => zm_Mo_missed l D G _ F _ m (xs (i + 1)) (xs (i + 2)) (v1, w2') e2) (zt_V zx_914 zx_915 zx_916 zx_5 zx_917) rfl hd_Mo_missed (by decide) 0 (by decide) (by decide) (by omega) (Nat.le_of_ble_eq_true rfl) rfl rfl hX dL_607 (fun hdj' => ?_)
  refine zg_lcmp hX dL_610 ?_
  refine zg_eqi (y := 0) (by unfold lg_cmp; simp) ?_
  refine zg_if_eq (ra := some ()) (rb := none) (r := ()) (tgt := 692) hX dL_611 rfl (if_pos rfl) (fun _ => ?_) (fun q => by cases q)
  exact zg_wide (by omega) (kk (zw_mv w1' (zw_n w2')) w2' (hmv _ _ _ hs') hdj' rfl)
set_option maxHeartbeats 4000000 in
set_option maxRecDepth 100000 in
theorem zo_c17 {X : zg_X} {D : va_G} {G : zw_G} {A : Nat → Prop} {Q : State → Prop} {S : zw_T → zw_T → Prop} {F b x m L i ck : Nat} {xs : Nat → Int32} {w1 w2 : zw_T} (hX : zg_ok X code "WakingPagersLaw" 4 9 336 128 13000 D G A) (hS : zs_X X A b L xs) (hL : L ≤ 2048) (hi : i + 4 ≤ L) (hdj : zw_dj w1 w2) (hnn : zw_n w2 = zw_n w1) (hx1 : (zw_ty w1 x).1 = 9) (hm1 : (zw_ty w2 m).1 = 10) (hck : ck + 23 ≤ 13000) (hmv : ∀ u1 u2 n, S u1 u2 → S (zw_mv u1 n) u2) (hop : zo_1 S (fun w => zf_WP_count F w x (xs (i + 1)) (xs (i + 2))) (fun w => zf_Mo_count F w m (xs (i + 1)) (xs (i + 2)))) (hs : S w1 w2) (kk : ∀ u1 u2, S u1 u2 → zw_dj u1 u2 → zw_n u2 = zw_n u1 → zg X D G A Q 128 (ck + 23) (zw_U u1 u2) 692 (zo_lv b x m i) []) : zg X D G A Q 128 ck (zw_U w1 w2) 616 (zo_lv b x m i) [] := by
  refine zg_lt (fun hB => ?_)
  obtain ⟨v1, w1', e1, hcl⟩ := hop w1 w2 hs (zo_Bu hB)
  refine zg_aload_n (x := (some x)) hX dL_616 rfl ?_
  refine zg_aload_n (x := (some b)) hX dL_617 rfl ?_
  refine zg_iload_n hX dL_618 rfl ?_
  refine zg_iconst hX dL_619 (1 : Int32) (by decide) ?_
  refine zg_iadd hX dL_620 ?_
  refine zg_eqi (nI_add i 1) ?_
  refine zg_sld hS (by omega) (by omega) hX dL_621 ?_
  refine zg_aload_n (x := (some b)) hX dL_622 rfl ?_
  refine zg_iload_n hX dL_623 rfl ?_
  refine zg_iconst hX dL_624 (2 : Int32) (by decide) ?_
  refine zg_iadd hX dL_625 ?_
  refine zg_eqi (nI_add i 2) ?_
  refine zg_sld hS (by omega) (by omega) hX dL_626 ?_
  refine zg_VC (sfy := 128) (mcy := 0) (v := some (.int v1)) (w' := w1') (st := []) hdj hnn hc_8 (by decide) hx1 [.int (xs (i + 1)), .int (xs (i + 2))] (fun l => zm_WP_count l D G _ F _ x (xs (i + 1)) (xs (i + 2)) (v1, w1') e1) (zt_V zx_608 zx_609 zx_610 zx_1 zx_611) rfl hd_WP_count (by decide) 0 (by decide) (by decide) (by omega) (Nat.le_of_ble_eq_true rfl) rfl rfl hX dL_627 (fun hdj' => ?_)
  obtain ⟨w2', e2, hs'⟩ := hcl (zw_n w1')
  refine zg_aload_n (x := (some m)) hX dL_630 rfl ?_
  refine zg_aload_n (x := (some b)) hX dL_631 rfl ?_
  refine zg_iload_n hX dL_632 rfl ?_
  refine zg_iconst hX dL_633 (1 : Int32) (by decide) ?_
  refine zg_iadd hX dL_634 ?_
  refine zg_eqi (nI_add i 1) ?_
  refine zg_sld hS (by omega) (by omega) hX dL_635 ?_
  refine zg_aload_n (x := (some b)) hX dL_636 rfl ?_
  refine zg_iload_n hX dL_637 rfl ?_
  refine zg_iconst hX dL_638 (2 : Int32) (by decide) ?_
  refine zg_iadd hX dL_639 ?_
  refine zg_eqi (nI_add i 2) ?_
  refine zg_sld hS (by omega) (by omega) hX dL_640 ?_
  refine zg_VM (sfy := 128) (mcy := 0) (v := some (.int v1)) (w' := w2') (st := [.int v1]) hdj' rfl hc_9 (by decide) hm1 [.int (xs (i + 1)), .int (xs (i + 2))] (fun l => zm_Mo_count l D G _ F _ m (xs (i + 1)) (xs (i + 2)) (v1, w2') e2) (zt_V zx_918 zx_919 zx_920 zx_5 zx_921) rfl hd_Mo_count (by decide) 0 (by decide) (by decide) (by omega) (Nat.le_of_ble_eq_true rfl) rfl rfl hX dL_641 (fun hdj' => ?_)
  refine zg_icmp_eq (ra := some ()) (rb := none) (r := ()) (tgt := 692) hX dL_644 rfl (if_pos rfl) (fun _ => ?_) (fun q => by cases q)
  exact zg_wide (by omega) (kk (zw_mv w1' (zw_n w2')) w2' (hmv _ _ _ hs') hdj' rfl)
set_option maxHeartbeats 4000000 in
set_option maxRecDepth 100000 in
theorem zo_c18 {X : zg_X} {D : va_G} {G : zw_G} {A : Nat → Prop} {Q : State → Prop} {S : zw_T → zw_T → Prop} {F b x m L i ck : Nat} {xs : Nat → Int32} {w1 w2 : zw_T} (hX : zg_ok X code "WakingPagersLaw" 4 9 336 128 13000 D G A) (hS : zs_X X A b L xs) (hL : L ≤ 2048) (hi : i + 4 ≤ L) (hdj : zw_dj w1 w2) (hnn : zw_n w2 = zw_n w1) (hx1 : (zw_ty w1 x).1 = 9) (hm1 : (zw_ty w2 m).1 = 10) (hck : ck + 23 ≤ 13000) (hmv : ∀ u1 u2 n, S u1 u2 → S (zw_mv u1 n) u2) (hop : zo_1 S (fun w => zf_WP_desk F w x (xs (i + 1)) (xs (i + 2)) (xs (i + 3))) (fun w => zf_Mo_desk F w m (xs (i + 1)) (xs (i + 2)) (xs (i + 3)))) (hs : S w1 w2) (kk : ∀ u1 u2, S u1 u2 → zw_dj u1 u2 → zw_n u2 = zw_n u1 → zg X D G A Q 128 (ck + 23) (zw_U u1 u2) 692 (zo_lv b x m i) []) : zg X D G A Q 128 ck (zw_U w1 w2) 649 (zo_lv b x m i) [] := by
  refine zg_lt (fun hB => ?_)
  obtain ⟨v1, w1', e1, hcl⟩ := hop w1 w2 hs (zo_Bu hB)
  refine zg_aload_n (x := (some x)) hX dL_649 rfl ?_
  refine zg_aload_n (x := (some b)) hX dL_650 rfl ?_
  refine zg_iload_n hX dL_651 rfl ?_
  refine zg_iconst hX dL_652 (1 : Int32) (by decide) ?_
  refine zg_iadd hX dL_653 ?_
  refine zg_eqi (nI_add i 1) ?_
  refine zg_sld hS (by omega) (by omega) hX dL_654 ?_
  refine zg_aload_n (x := (some b)) hX dL_655 rfl ?_
  refine zg_iload_n hX dL_656 rfl ?_
  refine zg_iconst hX dL_657 (2 : Int32) (by decide) ?_
  refine zg_iadd hX dL_658 ?_
  refine zg_eqi (nI_add i 2) ?_
  refine zg_sld hS (by omega) (by omega) hX dL_659 ?_
  refine zg_aload_n (x := (some b)) hX dL_660 rfl ?_
  refine zg_iload_n hX dL_661 rfl ?_
  refine zg_iconst hX dL_662 (3 : Int32) (by decide) ?_
  refine zg_iadd hX dL_663 ?_
  refine zg_eqi (nI_add i 3) ?_
  refine zg_sld hS (by omega) (by omega) hX dL_664 ?_
  refine zg_VC (sfy := 128) (mcy := 0) (v := some (.int v1)) (w' := w1') (st := []) hdj hnn hc_8 (by decide) hx1 [.int (xs (i + 1)), .int (xs (i + 2)), .int (xs (i + 3))] (fun l => zm_WP_desk l D G _ F _ x (xs (i + 1)) (xs (i + 2)) (xs (i + 3)) (v1, w1') e1) (zt_V zx_612 zx_613 zx_614 zx_1 zx_615) rfl hd_WP_desk (by decide) 0 (by decide) (by decide) (by omega) (Nat.le_of_ble_eq_true rfl) rfl rfl hX dL_665 (fun hdj' => ?_)
  obtain ⟨w2', e2, hs'⟩ := hcl (zw_n w1')
  refine zg_aload_n (x := (some m)) hX dL_668 rfl ?_
  refine zg_aload_n (x := (some b)) hX dL_669 rfl ?_
  refine zg_iload_n hX dL_670 rfl ?_
  refine zg_iconst hX dL_671 (1 : Int32) (by decide) ?_
  refine zg_iadd hX dL_672 ?_
  refine zg_eqi (nI_add i 1) ?_
  refine zg_sld hS (by omega) (by omega) hX dL_673 ?_
  refine zg_aload_n (x := (some b)) hX dL_674 rfl ?_
  refine zg_iload_n hX dL_675 rfl ?_
  refine zg_iconst hX dL_676 (2 : Int32) (by decide) ?_
  refine zg_iadd hX dL_677 ?_
  refine zg_eqi (nI_add i 2) ?_
  refine zg_sld hS (by omega) (by omega) hX dL_678 ?_
  refine zg_aload_n (x := (some b)) hX dL_679 rfl ?_
  refine zg_iload_n hX dL_680 rfl ?_
  refine zg_iconst hX dL_681 (3 : Int32) (by decide) ?_
  refine zg_iadd hX dL_682 ?_
  refine zg_eqi (nI_add i 3) ?_
  refine zg_sld hS (by omega) (by omega) hX dL_683 ?_
  refine zg_VM (sfy := 128) (mcy := 0) (v := some (.int v1)) (w' := w2') (st := [.int v1]) hdj' rfl hc_9 (by decide) hm1 [.int (xs (i + 1)), .int (xs (i + 2)), .int (xs (i + 3))] (fun l => zm_Mo_desk l D G _ F _ m (xs (i + 1)) (xs (i + 2)) (xs (i + 3)) (v1, w2') e2) (zt_V zx_922 zx_923 zx_924 zx_5 zx_925) rfl hd_Mo_desk (by decide) 0 (by decide) (by decide) (by omega) (Nat.le_of_ble_eq_true rfl) rfl rfl hX dL_684 (fun hdj' => ?_)
  refine zg_icmp_eq (ra := some ()) (rb := none) (r := ()) (tgt := 692) hX dL_687 rfl (if_pos rfl) (fun _ => ?_) (fun q => by cases q)
  exact zg_wide (by omega) (kk (zw_mv w1' (zw_n w2')) w2' (hmv _ _ _ hs') hdj' rfl)
def zo_all (F x m : Nat) (S : zw_T → zw_T → Prop) : Prop := (∀ a0 : Int32, zo_1 S (fun w => zf_WP_code F w x a0) (fun w => zf_Mo_code F w m a0)) ∧ (∀ a0 : Int32, zo_1 S (fun w => zf_WP_repair F w x a0) (fun w => zf_Mo_repair F w m a0)) ∧ (∀ a0 a1 : Int32, zo_1 S (fun w => zf_WP_identity F w x a0 a1) (fun w => zf_Mo_identity F w m a0 a1)) ∧ (zo_1 S (fun w => zf_WP_pager F w x) (fun w => zf_Mo_pager F w m)) ∧ (∀ a0 a1 : Int32, zo_1 S (fun w => zf_WP_join F w x a0 a1) (fun w => zf_Mo_join F w m a0 a1)) ∧ (∀ (l1 : Int64) (a1 : Int32), zo_1 S (fun w => zf_WP_load F w x l1 a1) (fun w => zf_Mo_load F w m l1 a1)) ∧ (zo_1 S (fun w => zf_WP_unload F w x) (fun w => zf_Mo_unload F w m)) ∧ (∀ a0 a1 : Int32, zo_1 S (fun w => zf_WP_call F w x a0 a1) (fun w => zf_Mo_call F w m a0 a1)) ∧ (zo_1 S (fun w => zf_WP_waiting F w x) (fun w => zf_Mo_waiting F w m)) ∧ (∀ a0 : Int32, zo_1 S (fun w => zf_WP_transmit F w x a0) (fun w => zf_Mo_transmit F w m a0)) ∧ (∀ a0 : Int32, zo_1 S (fun w => zf_WP_bit F w x a0) (fun w => zf_Mo_bit F w m a0)) ∧ (∀ a0 : Int32, zo_1 S (fun w => zf_WP_flip F w x a0) (fun w => zf_Mo_flip F w m a0)) ∧ (∀ a0 a1 : Int32, zo_1 S (fun w => zf_WP_hear F w x a0 a1) (fun w => zf_Mo_hear F w m a0 a1)) ∧ (∀ a0 : Int32, zo_1 S (fun w => zf_WP_kept F w x a0) (fun w => zf_Mo_kept F w m a0)) ∧ (∀ a0 a1 a2 : Int32, zo_1 S (fun w => zf_WP_message F w x a0 a1 a2) (fun w => zf_Mo_message F w m a0 a1 a2)) ∧ (∀ a0 a1 a2 : Int32, zo_1 S (fun w => zf_WP_sign F w x a0 a1 a2) (fun w => zf_Mo_sign F w m a0 a1 a2)) ∧ (∀ a0 a1 : Int32, zo_1 S (fun w => zf_WP_missed F w x a0 a1) (fun w => zf_Mo_missed F w m a0 a1)) ∧ (∀ a0 a1 : Int32, zo_1 S (fun w => zf_WP_count F w x a0 a1) (fun w => zf_Mo_count F w m a0 a1)) ∧ (∀ a0 a1 a2 : Int32, zo_1 S (fun w => zf_WP_desk F w x a0 a1 a2) (fun w => zf_Mo_desk F w m a0 a1 a2))
theorem zo_32 {P : Nat → Prop} (h0 : P 0) (h1 : P 1) (h2 : P 2) (h3 : P 3) (h4 : P 4) (h5 : P 5) (h6 : P 6) (h7 : P 7) (h8 : P 8) (h9 : P 9) (h10 : P 10) (h11 : P 11) (h12 : P 12) (h13 : P 13) (h14 : P 14) (h15 : P 15) (h16 : P 16) (h17 : P 17) (h18 : P 18) (h19 : P 19) (h20 : P 20) (h21 : P 21) (h22 : P 22) (h23 : P 23) (h24 : P 24) (h25 : P 25) (h26 : P 26) (h27 : P 27) (h28 : P 28) (h29 : P 29) (h30 : P 30) (h31 : P 31) {j : Nat} (hj : j < 32) : P j := by
  match j, hj with
  | 0, _ => exact h0
  | 1, _ => exact h1
  | 2, _ => exact h2
  | 3, _ => exact h3
  | 4, _ => exact h4
  | 5, _ => exact h5
  | 6, _ => exact h6
  | 7, _ => exact h7
  | 8, _ => exact h8
  | 9, _ => exact h9
  | 10, _ => exact h10
  | 11, _ => exact h11
  | 12, _ => exact h12
  | 13, _ => exact h13
  | 14, _ => exact h14
  | 15, _ => exact h15
  | 16, _ => exact h16
  | 17, _ => exact h17
  | 18, _ => exact h18
  | 19, _ => exact h19
  | 20, _ => exact h20
  | 21, _ => exact h21
  | 22, _ => exact h22
  | 23, _ => exact h23
  | 24, _ => exact h24
  | 25, _ => exact h25
  | 26, _ => exact h26
  | 27, _ => exact h27
  | 28, _ => exact h28
  | 29, _ => exact h29
  | 30, _ => exact h30
  | 31, _ => exact h31
  | j + 32, h => exact absurd h (by omega)
set_option maxHeartbeats 4000000 in
set_option maxRecDepth 100000 in
theorem zo_sw {X : zg_X} {D : va_G} {G : zw_G} {A : Nat → Prop} {Q : State → Prop} {S : zw_T → zw_T → Prop} {F b x m L i ck j : Nat} {xs : Nat → Int32} {w1 w2 : zw_T} (hX : zg_ok X code "WakingPagersLaw" 4 9 336 128 13000 D G A) (hS : zs_X X A b L xs) (hL : L ≤ 2048) (hi : i + 4 ≤ L) (hdj : zw_dj w1 w2) (hnn : zw_n w2 = zw_n w1) (hx1 : (zw_ty w1 x).1 = 9) (hm1 : (zw_ty w2 m).1 = 10) (hck : ck + 23 ≤ 13000) (hmv : ∀ u1 u2 n, S u1 u2 → S (zw_mv u1 n) u2) (hop : zo_all F x m S) (hs : S w1 w2) (hj : j < 32) (kk : ∀ u1 u2, S u1 u2 → zw_dj u1 u2 → zw_n u2 = zw_n u1 → zg X D G A Q 128 (ck + 23) (zw_U u1 u2) 692 (zo_lv b x m i) []) : zg X D G A Q 128 ck (zw_U w1 w2) 32 (zo_lv b x m i) [.int (nI j)] := by
  refine zo_32 (P := fun j => zg X D G A Q 128 ck (zw_U w1 w2) 32 (zo_lv b x m i) [.int (nI j)]) ?_ ?_ ?_ ?_ ?_ ?_ ?_ ?_ ?_ ?_ ?_ ?_ ?_ ?_ ?_ ?_ ?_ ?_ ?_ ?_ ?_ ?_ ?_ ?_ ?_ ?_ ?_ ?_ ?_ ?_ ?_ ?_ hj
  · refine zg_tswI (tgt := 124) hX dL_32 (by decide) (by decide) rfl rfl ?_
    exact zo_c0 hX hS hL hi hdj hnn hx1 hm1 hck hmv (hop.1 (xs (i + 1))) hs kk
  · refine zg_tswI (tgt := 147) hX dL_32 (by decide) (by decide) rfl rfl ?_
    exact zo_c1 hX hS hL hi hdj hnn hx1 hm1 hck hmv (hop.2.1 (xs (i + 1))) hs kk
  · refine zg_tswI (tgt := 170) hX dL_32 (by decide) (by decide) rfl rfl ?_
    exact zo_c2 hX hS hL hi hdj hnn hx1 hm1 hck hmv (hop.2.2.1 (xs (i + 1)) (xs (i + 2))) hs kk
  · refine zg_tswI (tgt := 203) hX dL_32 (by decide) (by decide) rfl rfl ?_
    exact zo_c3 hX hS hL hi hdj hnn hx1 hm1 hck hmv (hop.2.2.2.1) hs kk
  · refine zg_tswI (tgt := 216) hX dL_32 (by decide) (by decide) rfl rfl ?_
    exact zo_c4 hX hS hL hi hdj hnn hx1 hm1 hck hmv (hop.2.2.2.2.1 (xs (i + 1)) (xs (i + 2))) hs kk
  · refine zg_tswI (tgt := 249) hX dL_32 (by decide) (by decide) rfl rfl ?_
    exact zo_c5 hX hS hL hi hdj hnn hx1 hm1 hck hmv (hop.2.2.2.2.2.1 ((zi_lshl (Int32.toInt64 (xs (i + 1))) (32 : Int32)) ||| ((Int32.toInt64 (xs (i + 2))) &&& (4294967295 : Int64))) (xs (i + 3))) hs kk
  · refine zg_tswI (tgt := 312) hX dL_32 (by decide) (by decide) rfl rfl ?_
    exact zo_c6 hX hS hL hi hdj hnn hx1 hm1 hck hmv (hop.2.2.2.2.2.2.1) hs kk
  · refine zg_tswI (tgt := 325) hX dL_32 (by decide) (by decide) rfl rfl ?_
    exact zo_c7 hX hS hL hi hdj hnn hx1 hm1 hck hmv (hop.2.2.2.2.2.2.2.1 (xs (i + 1)) (xs (i + 2))) hs kk
  · refine zg_tswI (tgt := 358) hX dL_32 (by decide) (by decide) rfl rfl ?_
    exact zo_c8 hX hS hL hi hdj hnn hx1 hm1 hck hmv (hop.2.2.2.2.2.2.2.2.1) hs kk
  · refine zg_tswI (tgt := 371) hX dL_32 (by decide) (by decide) rfl rfl ?_
    exact zo_c9 hX hS hL hi hdj hnn hx1 hm1 hck hmv (hop.2.2.2.2.2.2.2.2.2.1 (xs (i + 1))) hs kk
  · refine zg_tswI (tgt := 394) hX dL_32 (by decide) (by decide) rfl rfl ?_
    exact zo_c10 hX hS hL hi hdj hnn hx1 hm1 hck hmv (hop.2.2.2.2.2.2.2.2.2.2.1 (xs (i + 1))) hs kk
  · refine zg_tswI (tgt := 417) hX dL_32 (by decide) (by decide) rfl rfl ?_
    exact zo_c11 hX hS hL hi hdj hnn hx1 hm1 hck hmv (hop.2.2.2.2.2.2.2.2.2.2.2.1 (xs (i + 1))) hs kk
  · refine zg_tswI (tgt := 440) hX dL_32 (by decide) (by decide) rfl rfl ?_
    exact zo_c12 hX hS hL hi hdj hnn hx1 hm1 hck hmv (hop.2.2.2.2.2.2.2.2.2.2.2.2.1 (xs (i + 1)) (xs (i + 2))) hs kk
  · refine zg_tswI (tgt := 473) hX dL_32 (by decide) (by decide) rfl rfl ?_
    exact zo_c13 hX hS hL hi hdj hnn hx1 hm1 hck hmv (hop.2.2.2.2.2.2.2.2.2.2.2.2.2.1 (xs (i + 1))) hs kk
  · refine zg_tswI (tgt := 496) hX dL_32 (by decide) (by decide) rfl rfl ?_
    exact zo_c14 hX hS hL hi hdj hnn hx1 hm1 hck hmv (hop.2.2.2.2.2.2.2.2.2.2.2.2.2.2.1 (xs (i + 1)) (xs (i + 2)) (xs (i + 3))) hs kk
  · refine zg_tswI (tgt := 539) hX dL_32 (by decide) (by decide) rfl rfl ?_
    exact zo_c15 hX hS hL hi hdj hnn hx1 hm1 hck hmv (hop.2.2.2.2.2.2.2.2.2.2.2.2.2.2.2.1 (xs (i + 1)) (xs (i + 2)) (xs (i + 3))) hs kk
  · refine zg_tswI (tgt := 582) hX dL_32 (by decide) (by decide) rfl rfl ?_
    exact zo_c16 hX hS hL hi hdj hnn hx1 hm1 hck hmv (hop.2.2.2.2.2.2.2.2.2.2.2.2.2.2.2.2.1 (xs (i + 1)) (xs (i + 2))) hs kk
  · refine zg_tswI (tgt := 616) hX dL_32 (by decide) (by decide) rfl rfl ?_
    exact zo_c17 hX hS hL hi hdj hnn hx1 hm1 hck hmv (hop.2.2.2.2.2.2.2.2.2.2.2.2.2.2.2.2.2.1 (xs (i + 1)) (xs (i + 2))) hs kk
  · refine zg_tswI (tgt := 649) hX dL_32 (by decide) (by decide) rfl rfl ?_
    exact zo_c18 hX hS hL hi hdj hnn hx1 hm1 hck hmv (hop.2.2.2.2.2.2.2.2.2.2.2.2.2.2.2.2.2.2 (xs (i + 1)) (xs (i + 2)) (xs (i + 3))) hs kk
  · refine zg_tswO (tgt := 692) hX dL_32 (by decide) rfl ?_
    exact zg_wide (by omega) (kk w1 w2 hs hdj hnn)
  · refine zg_tswO (tgt := 692) hX dL_32 (by decide) rfl ?_
    exact zg_wide (by omega) (kk w1 w2 hs hdj hnn)
  · refine zg_tswO (tgt := 692) hX dL_32 (by decide) rfl ?_
    exact zg_wide (by omega) (kk w1 w2 hs hdj hnn)
  · refine zg_tswO (tgt := 692) hX dL_32 (by decide) rfl ?_
    exact zg_wide (by omega) (kk w1 w2 hs hdj hnn)
  · refine zg_tswO (tgt := 692) hX dL_32 (by decide) rfl ?_
    exact zg_wide (by omega) (kk w1 w2 hs hdj hnn)
  · refine zg_tswO (tgt := 692) hX dL_32 (by decide) rfl ?_
    exact zg_wide (by omega) (kk w1 w2 hs hdj hnn)
  · refine zg_tswO (tgt := 692) hX dL_32 (by decide) rfl ?_
    exact zg_wide (by omega) (kk w1 w2 hs hdj hnn)
  · refine zg_tswO (tgt := 692) hX dL_32 (by decide) rfl ?_
    exact zg_wide (by omega) (kk w1 w2 hs hdj hnn)
  · refine zg_tswO (tgt := 692) hX dL_32 (by decide) rfl ?_
    exact zg_wide (by omega) (kk w1 w2 hs hdj hnn)
  · refine zg_tswO (tgt := 692) hX dL_32 (by decide) rfl ?_
    exact zg_wide (by omega) (kk w1 w2 hs hdj hnn)
  · refine zg_tswO (tgt := 692) hX dL_32 (by decide) rfl ?_
    exact zg_wide (by omega) (kk w1 w2 hs hdj hnn)
  · refine zg_tswO (tgt := 692) hX dL_32 (by decide) rfl ?_
    exact zg_wide (by omega) (kk w1 w2 hs hdj hnn)
  · refine zg_tswO (tgt := 692) hX dL_32 (by decide) rfl ?_
    exact zg_wide (by omega) (kk w1 w2 hs hdj hnn)
