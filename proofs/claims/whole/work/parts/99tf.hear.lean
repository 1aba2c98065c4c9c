/-! hear: the number is noted -/
def zor (l : Nat) : Nat → Nat → Int64 → Int64
  | 0, _, G => G
  | c + 1, j, G => zor l c (j + 1) (G ||| zi_lshl (1 : Int64) (nI ((l + j) % 64)))
def znd (l n : Nat) : Nat := (n + 64 - l) % 64
def zmk (n : Nat) (G : Int64) : Int64 := G &&& (zi_lshl (1 : Int64) (nI n) ^^^ (-1 : Int64))
theorem zfm1 : ∀ n, n < 64 → ∀ l, l < 64 → (if 0 ≤ ((nI n - nI l) ^^^ (64 : Int32)) then zi_rem (nI n - nI l) (64 : Int32) else if zi_rem (nI n - nI l) (64 : Int32) = 0 then zi_rem (nI n - nI l) (64 : Int32) else zi_rem (nI n - nI l) (64 : Int32) + (64 : Int32)) = nI (znd l n) := by decide +kernel
theorem zfm2 : ∀ n, n < 64 → ∀ l, l < 64 → zi_rem ((nI n - nI l) + (64 : Int32)) (64 : Int32) = nI (znd l n) := by decide +kernel
theorem zfmW {F : Nat} {w : zw_T} {n l : Nat} (hn : n < 64) (hl : l < 64) : zf_Ma_floorMod F w (nI n - nI l) (64 : Int32) = some (nI (znd l n), w) := by
  have key := zfm1 n hn l hl
  unfold zf_Ma_floorMod zf_nz
  rw [if_neg (by decide), zlt_s]
  by_cases h1 : 0 ≤ ((nI n - nI l) ^^^ (64 : Int32))
  · rw [if_pos h1] at key
    rw [if_pos h1, key]
    rfl
  · rw [if_neg h1] at key
    rw [if_neg h1]
    by_cases h2 : zi_rem (nI n - nI l) (64 : Int32) = 0
    · rw [if_pos h2] at key
      rw [if_pos h2, key]
      rfl
    · rw [if_neg h2] at key
      rw [if_neg h2, key]
theorem zb_sL_sL (τ : zB) (κ i j : Nat) (a b : Int64) : zb_sL (zb_sL τ κ i j a) κ i j b = zb_sL τ κ i j b := by
  unfold zb_sL
  congr 3
  funext k c
  by_cases h : k = κ ∧ c = i
  · rw [if_pos h, if_pos h]
    show vp_updL (if k = κ ∧ c = i then _ else _) j b = _
    rw [if_pos h]
    funext d
    by_cases hd : d = j
    · rw [hd, pk_uLs, pk_uLs]
    · rw [pk_uLn hd, pk_uLn hd, pk_uLn hd]
  · rw [if_neg h, if_neg h]
    exact if_neg h
theorem zQ_sQ (σ : zA) (j : Nat) (a b : Int64) : zQ_s (zQ_s σ j a) j b = zQ_s σ j b := by
  refine Prod.ext rfl (Prod.ext rfl ?_)
  funext d
  show (if d = j then b else if d = j then a else σ.2.2 d) = (if d = j then b else σ.2.2 d)
  by_cases hd : d = j
  · rw [if_pos hd, if_pos hd]
  · rw [if_neg hd, if_neg hd, if_neg hd]
section ZH6
variable {ac : Nat → Nat → Nat} {τ : zB} {am : Nat → Nat} {σ : zA} {w w2 : zw_T} {F m : Nat}
theorem zc_89 (hC : zC ac τ w) {r n : Nat} (a2 : zb_a τ 2 r = true) : zf_Hd_noteNumber_j89 F w (ac 2 r) (nI n) = some (zw_sL w 1065 (ac 2 r) 0 (zmk n (zb_L τ 1065 r 0))) := by
  unfold zf_Hd_noteNumber_j89 zmk
  rw [zC_at hC 2 r a2, zC_at hC 2 r a2, zC_L hC 1065 2 r rfl a2, zlt_s]
theorem zc_53 {r n l d : Nat} (hl : l < 64) (hd : d < 64) : ∀ c N j (τ : zB) (w : zw_T), j + c = d → c < N → zC ac τ w → zb_a τ 2 r = true → zb_I τ 1066 r 0 = nI l → ∃ w', zf_Hd_noteNumber_L53 F N w (ac 2 r) (nI n) (nI d) (nI j) = some w' ∧ zC ac (zb_sL (zb_sI τ 1066 r 0 (nI n)) 1065 r 0 (zmk n (zor l c j (zb_L τ 1065 r 0)))) w' := by
  intro c
  induction c with
  | zero =>
    intro N j τ w e1 e2 hC a2 hx
    obtain ⟨N, rfl⟩ : ∃ q, N = q + 1 := ⟨N - 1, by omega⟩
    have c1 := zC_sI hC 1066 2 r rfl a2 0 (nI n)
    have c2 := zC_sL c1 1065 2 r rfl a2 0 (zmk n (zb_L (zb_sI τ 1066 r 0 (nI n)) 1065 r 0))
    refine ⟨_, ?_, c2⟩
    rw [zf_Hd_noteNumber_L53, if_pos ((nI_leI (by omega) (by omega)).mpr (by omega)), zC_at hC 2 r a2, zlt_s, zc_89 c1 a2]
  | succ c ih =>
    intro N j τ w e1 e2 hC a2 hx
    obtain ⟨N, rfl⟩ : ∃ q, N = q + 1 := ⟨N - 1, by omega⟩
    have c1 := zC_sL hC 1065 2 r rfl a2 0 (zb_L τ 1065 r 0 ||| zi_lshl (1 : Int64) (nI ((l + j) % 64)))
    obtain ⟨w', r1, r2⟩ := ih N (j + 1) _ _ (by omega) (by omega) c1 a2 hx
    refine ⟨w', ?_, ?_⟩
    · rw [zf_Hd_noteNumber_L53, if_neg (zn_le (by omega) (by omega) (by omega)), zC_at hC 2 r a2, zC_at hC 2 r a2, zC_at hC 2 r a2, zC_L hC 1065 2 r rfl a2, zC_I hC 1066 2 r rfl a2, hx, nI_add, show (64 : Int32) = nI 64 from rfl, zq_rem (by omega) (by decide) (by decide), zlt_s, zs1, zlt_s, r1]
    · rw [zb_L_sL, if_pos ⟨rfl, rfl, rfl⟩] at r2
      have e : zb_sL (zb_sI (zb_sL τ 1065 r 0 (zb_L τ 1065 r 0 ||| zi_lshl (1 : Int64) (nI ((l + j) % 64)))) 1066 r 0 (nI n)) 1065 r 0 (zmk n (zor l c (j + 1) (zb_L τ 1065 r 0 ||| zi_lshl (1 : Int64) (nI ((l + j) % 64))))) = zb_sL (zb_sI τ 1066 r 0 (nI n)) 1065 r 0 (zmk n (zor l c (j + 1) (zb_L τ 1065 r 0 ||| zi_lshl (1 : Int64) (nI ((l + j) % 64))))) := zb_sL_sL (zb_sI τ 1066 r 0 (nI n)) 1065 r 0 _ _
      rw [e] at r2
      exact r2
theorem zo_127 (h : zM m am σ w) {y n : Nat} (hy : y < 72) (v : Int32) : ∃ w', zf_Mo_note_j127 F w m (nI n) (nI y) v (nI y) (some (am 138)) = some w' ∧ zM m am (zQ_s (zJ_s σ 138 y v) y (zmk n (zQ σ y))) w' := by
  have m1 := zM_sj h 138 (by decide) y v
  have m2 := zM_sl m1 y (zmk n (zQ σ y))
  refine ⟨_, ?_, m2⟩
  have g : zw_L (zw_sI w 138 (am 138) y v) 300 (am 300) y = zQ σ y := zM_l m1 y
  unfold zf_Mo_note_j127
  rw [zM_ix h 1605 138 72 (by decide) hy (by decide), zlt_s, zM_at m1, zM_at m1, zM_R m1 1604 300 72 (by decide), zM_ix m1 1604 300 72 (by decide) hy (by decide), zM_ix m1 1604 300 72 (by decide) hy (by decide), g, zlt_s]
  rfl
theorem zo_93 (h : zM m am σ w) {y n d l : Nat} (hy : y < 72) (hd : d < 64) (hl : l < 64) (hx : zJ σ 138 y = nI l) : ∃ w', zf_Mo_note_j93 F w m (nI n) (nI y) (nI d) = some w' ∧ zM m am (zQ_s (zJ_s σ 138 y (if d = 0 ∨ 32 ≤ d then nI l else nI n)) y (zmk n (zQ σ y))) w' := by
  unfold zf_Mo_note_j93
  rw [zM_at h, zM_at h, zM_R h 1605 138 72 (by decide), zM_ix h 1605 138 72 (by decide) hy (by decide), zM_j h 138 (by decide), hx, if_neg (nI_pos (by omega))]
  have e121 : ∃ w', zf_Mo_note_j121 F w m (nI n) (nI y) (nI y) (some (am 138)) = some w' ∧ zM m am (zQ_s (zJ_s σ 138 y (nI l)) y (zmk n (zQ σ y))) w' := by
    unfold zf_Mo_note_j121
    rw [zM_at h, zM_R h 1605 138 72 (by decide), zM_ix h 1605 138 72 (by decide) hy (by decide), zM_j h 138 (by decide), hx]
    exact zo_127 h hy (nI l)
  by_cases h1 : d = 0
  · rw [if_pos (show nI d ≤ (0 : Int32) from (nI_leI (b := 0) (by omega) (by decide)).mpr (by omega)), if_pos (Or.inl h1)]
    exact e121
  · rw [if_neg (show ¬ nI d ≤ (0 : Int32) from zn_le (b := 0) (by omega) (by decide) (by omega))]
    by_cases h2 : 32 ≤ d
    · rw [if_pos (show (32 : Int32) ≤ nI d from (nI_leI (a := 32) (by decide) (by omega)).mpr h2), if_pos (Or.inr h2)]
      exact e121
    · rw [if_neg (show ¬ (32 : Int32) ≤ nI d from zn_le (a := 32) (by decide) (by omega) h2), if_neg (by omega)]
      exact zo_127 h hy (nI n)
theorem zo_54 {y n l d : Nat} (hy : y < 72) (hl : l < 64) (hd : d < 32) (hd0 : 0 < d) : ∀ c N j (σ : zA) (w : zw_T), j + c = d → c < N → zM m am σ w → zJ σ 138 y = nI l → ∃ w', zf_Mo_note_L54 F N w m (nI n) (nI y) (nI d) (nI j) = some w' ∧ zM m am (zQ_s (zJ_s σ 138 y (nI n)) y (zmk n (zor l c j (zQ σ y)))) w' := by
  intro c
  induction c with
  | zero =>
    intro N j σ w e1 e2 h hx
    obtain ⟨N, rfl⟩ : ∃ q, N = q + 1 := ⟨N - 1, by omega⟩
    obtain ⟨w', r1, r2⟩ := zo_93 (F := F) (n := n) h hy (d := d) (by omega) hl hx
    rw [if_neg (by omega)] at r2
    refine ⟨w', ?_, r2⟩
    rw [zf_Mo_note_L54, if_pos ((nI_leI (by omega) (by omega)).mpr (by omega)), r1]
  | succ c ih =>
    intro N j σ w e1 e2 h hx
    obtain ⟨N, rfl⟩ : ∃ q, N = q + 1 := ⟨N - 1, by omega⟩
    have m1 := zM_sl h y (zQ σ y ||| zi_lshl (1 : Int64) (nI ((l + j) % 64)))
    obtain ⟨w', r1, r2⟩ := ih N (j + 1) _ _ (by omega) (by omega) m1 hx
    refine ⟨w', ?_, ?_⟩
    · rw [zf_Mo_note_L54, if_neg (zn_le (by omega) (by omega) (by omega)), zM_at h, zM_at h, zM_R h 1604 300 72 (by decide), zM_ix h 1604 300 72 (by decide) hy (by decide), zM_at h, zM_R h 1605 138 72 (by decide), zM_ix h 1605 138 72 (by decide) hy (by decide), zM_ix h 1604 300 72 (by decide) hy (by decide), zM_j h 138 (by decide), hx, zM_l h y, nI_add, show (64 : Int32) = nI 64 from rfl, zq_rem (by omega) (by decide) (by decide), zlt_s, zs1, zlt_s, r1]
    · have e0 : zQ (zQ_s σ y (zQ σ y ||| zi_lshl (1 : Int64) (nI ((l + j) % 64)))) y = zQ σ y ||| zi_lshl (1 : Int64) (nI ((l + j) % 64)) := if_pos rfl
      rw [e0] at r2
      have e : zQ_s (zJ_s (zQ_s σ y (zQ σ y ||| zi_lshl (1 : Int64) (nI ((l + j) % 64)))) 138 y (nI n)) y (zmk n (zor l c (j + 1) (zQ σ y ||| zi_lshl (1 : Int64) (nI ((l + j) % 64))))) = zQ_s (zJ_s σ 138 y (nI n)) y (zmk n (zor l c (j + 1) (zQ σ y ||| zi_lshl (1 : Int64) (nI ((l + j) % 64))))) := zQ_sQ (zJ_s σ 138 y (nI n)) y _ _
      rw [e] at r2
      exact r2
/-- both note the number -/
theorem zh_nt (hF : 2500 ≤ F) (hC : zC ac τ w) {r y n p i : Nat} (a2 : zb_a τ 2 r = true) (hp : p < 6) (hi : i < 12) (hy : y = 12 * p + i) (hn : n < 64) (ex : zb_I τ 1066 r 0 = zJ σ 138 y) (eg : zb_L τ 1065 r 0 = zQ σ y) (hl : zLat (zJ σ 138 y)) (h7 : zN σ 1607 0 = p) (h8 : zJ σ 1608 0 = nI i) : ∃ L' G' w', zLat L' ∧ zf_Hd_noteNumber F w (ac 2 r) (nI n) = some w' ∧ zC ac (zb_sL (zb_sI τ 1066 r 0 L') 1065 r 0 G') w' ∧ ∀ w2, zM m am σ w2 → ∃ w2', zf_Mo_note F w2 m (nI n) = some w2' ∧ zM m am (zQ_s (zJ_s σ 138 y L') y G') w2' := by
  have hy72 : y < 72 := by omega
  have mh : ∀ w2, zM m am σ w2 → zf_Mo_note F w2 m (nI n) = (if 0 ≤ zJ σ 138 y then zf_Mo_note_j40 F w2 m (nI n) (nI y) (zi_rem ((nI n - zJ σ 138 y) + (64 : Int32)) (64 : Int32)) else zf_Mo_note_j40 F w2 m (nI n) (nI y) 0) := by
    intro w2 h
    unfold zf_Mo_note
    rw [zM_at h, zM_at h, zM_fn h 1607 (by decide) (by decide), h7, zM_fj h 1608 (by decide) (by decide), h8, show (12 : Int32) * nI p + nI i = nI y from by
      rw [hy]
      exact zmd 12 p i, zlt_s, zM_at h, zM_R h 1605 138 72 (by decide), zM_ix h 1605 138 72 (by decide) hy72 (by decide), zM_j h 138 (by decide), zM_at h]
    by_cases hz : 0 ≤ zJ σ 138 y
    · rw [if_pos hz, if_pos hz, zM_R h 1605 138 72 (by decide), zM_ix h 1605 138 72 (by decide) hy72 (by decide), zM_j h 138 (by decide)]
    · rw [if_neg hz, if_neg hz]
  rcases hl with hl | ⟨l, hl, hx⟩
  · -- the first number
    have c1 := zC_sI hC 1066 2 r rfl a2 0 (nI n)
    have c2 := zC_sL c1 1065 2 r rfl a2 0 (zmk n (zb_L (zb_sI τ 1066 r 0 (nI n)) 1065 r 0))
    refine ⟨nI n, zmk n (zQ σ y), zw_sL (zw_sI w 1066 (ac 2 r) 0 (nI n)) 1065 (ac 2 r) 0 (zmk n (zb_L (zb_sI τ 1066 r 0 (nI n)) 1065 r 0)), Or.inr ⟨n, hn, rfl⟩, ?_, ?_, fun w2 h => ?_⟩
    · unfold zf_Hd_noteNumber
      rw [zC_at hC 2 r a2, zC_I hC 1066 2 r rfl a2, ex, hl, if_pos rfl]
      unfold zf_Hd_noteNumber_j23
      rw [zlt_s, zC_at hC 2 r a2, zC_I hC 1066 2 r rfl a2, ex, hl, if_pos rfl, zC_at hC 2 r a2, zlt_s, zc_89 c1 a2]
    · rw [← eg]
      exact c2
    · obtain ⟨w3, r1, r2⟩ := zo_127 (F := F) (n := n) h hy72 (nI n)
      refine ⟨w3, ?_, r2⟩
      rw [mh w2 h, hl, if_neg (by decide)]
      unfold zf_Mo_note_j40
      rw [zlt_s, if_pos (by decide)]
      unfold zf_Mo_note_j93
      rw [zM_at h, zM_at h, zM_R h 1605 138 72 (by decide), zM_ix h 1605 138 72 (by decide) hy72 (by decide), zM_j h 138 (by decide), hl, if_pos (by decide)]
      exact r1
  · have hd : znd l n < 64 := Nat.mod_lt _ (by decide)
    have ne : ¬ nI l = (-1 : Int32) := fun z => nI_pos (n := l) (by omega) (by rw [z]; decide)
    have cs : zf_Hd_noteNumber F w (ac 2 r) (nI n) = zf_Hd_noteNumber_j23 F w (ac 2 r) (nI n) (nI (znd l n)) := by
      unfold zf_Hd_noteNumber
      rw [zC_at hC 2 r a2, zC_I hC 1066 2 r rfl a2, ex, hx, if_neg ne, zC_at hC 2 r a2, zC_I hC 1066 2 r rfl a2, ex, hx, zfmW hn hl, zbd_s]
    have ms : ∀ w2, zM m am σ w2 → zf_Mo_note F w2 m (nI n) = zf_Mo_note_j40 F w2 m (nI n) (nI y) (nI (znd l n)) := by
      intro w2 h
      rw [mh w2 h, hx, if_pos (nI_pos' (by omega)), zfm2 n hn l hl]
    by_cases hq : znd l n = 0 ∨ 32 ≤ znd l n
    · have c1 := zC_sL hC 1065 2 r rfl a2 0 (zmk n (zb_L τ 1065 r 0))
      refine ⟨nI l, zmk n (zQ σ y), zw_sL w 1065 (ac 2 r) 0 (zmk n (zb_L τ 1065 r 0)), Or.inr ⟨l, hl, rfl⟩, ?_, ?_, fun w2 h => ?_⟩
      · rw [cs]
        unfold zf_Hd_noteNumber_j23
        rw [zlt_s, zC_at hC 2 r a2, zC_I hC 1066 2 r rfl a2, ex, hx, if_neg ne]
        by_cases h1 : znd l n = 0
        · rw [h1, if_pos (by decide), zc_89 hC a2]
        · rw [if_neg (show ¬ nI (znd l n) < (1 : Int32) from zn_lt (b := 1) (by omega) (by decide) (by omega)), if_pos (show (32 : Int32) ≤ nI (znd l n) from (nI_leI (a := 32) (by decide) (by omega)).mpr (by omega)), zc_89 hC a2]
      · rw [zb_sI_same τ (ex.trans hx), ← eg]
        exact c1
      · obtain ⟨w3, r1, r2⟩ := zo_93 (F := F) (n := n) h hy72 hd hl hx
        rw [if_pos hq] at r2
        refine ⟨w3, ?_, r2⟩
        rw [ms w2 h]
        unfold zf_Mo_note_j40
        rw [zlt_s]
        by_cases h1 : znd l n = 0
        · rw [if_pos (show nI (znd l n) ≤ (0 : Int32) from (nI_leI (b := 0) (by omega) (by decide)).mpr (by omega)), r1]
        · rw [if_neg (show ¬ nI (znd l n) ≤ (0 : Int32) from zn_le (b := 0) (by omega) (by decide) (by omega)), if_pos (show (32 : Int32) ≤ nI (znd l n) from (nI_leI (a := 32) (by decide) (by omega)).mpr (by omega)), r1]
    · obtain ⟨w', r1, r2⟩ := zc_53 (F := F) (n := n) (d := znd l n) hl hd (znd l n - 1) F 1 τ w (by omega) (by omega) hC a2 (ex.trans hx)
      refine ⟨nI n, zmk n (zor l (znd l n - 1) 1 (zQ σ y)), w', Or.inr ⟨n, hn, rfl⟩, ?_, ?_, fun w2 h => ?_⟩
      · rw [cs]
        unfold zf_Hd_noteNumber_j23
        rw [zlt_s, zC_at hC 2 r a2, zC_I hC 1066 2 r rfl a2, ex, hx, if_neg ne, if_neg (show ¬ nI (znd l n) < (1 : Int32) from zn_lt (b := 1) (by omega) (by decide) (by omega)), if_neg (show ¬ (32 : Int32) ≤ nI (znd l n) from zn_le (a := 32) (by decide) (by omega) (by omega)), zlt_s]
        exact r1
      · rw [← eg]
        exact r2
      · obtain ⟨w3, s1, s2⟩ := zo_54 (F := F) (n := n) (d := znd l n) hy72 hl (by omega) (by omega) (znd l n - 1) F 1 σ w2 (by omega) (by omega) h hx
        refine ⟨w3, ?_, s2⟩
        rw [ms w2 h]
        unfold zf_Mo_note_j40
        rw [zlt_s, if_neg (show ¬ nI (znd l n) ≤ (0 : Int32) from zn_le (b := 0) (by omega) (by decide) (by omega)), if_neg (show ¬ (32 : Int32) ≤ nI (znd l n) from zn_le (a := 32) (by decide) (by omega) (by omega)), zlt_s]
        exact s1
theorem znt_I (hI : zI σ) {p h i : Nat} {L' : Int32} {G' : Int64} (hp : p < 6) (hh : h < zN σ 132 p) (hi : zN σ 131 (4 * p + h) = i) (hL : zLat L') : zI (zQ_s (zJ_s σ 138 (12 * p + i) L') (12 * p + i) G') := by
  have hi12 : i < 12 := by
    have := zI_hrs hI p h hp hh
    have := zI_idn hI
    omega
  obtain ⟨i_idn, i_msn, i_ldn, i_bts, i_pgn, i_b32, i_adr, i_res, i_inj, i_knd, i_cal, i_cal0, i_mto, i_mpr, i_mnu, i_mle, i_wts, i_wtn, i_ld, i_mk, i_air, i_hcn, i_hrs, i_hc0, i_ct0, i_mi0, i_dis, i_kpn, i_kmn, i_kof, i_knu, i_lat⟩ := hI
  refine ⟨i_idn, i_msn, i_ldn, i_bts, i_pgn, i_b32, i_adr, i_res, i_inj, i_knd, i_cal, i_cal0, i_mto, i_mpr, i_mnu, i_mle, i_wts, i_wtn, i_ld, i_mk, i_air, i_hcn, i_hrs, i_hc0, i_ct0, fun r j h1 h2 h3 => ?_, i_dis, i_kpn, i_kmn, i_kof, i_knu, fun j => ?_⟩
  · have h3 : zhears σ r j = false := h3
    show (if 12 * r + j = 12 * p + i then G' else zQ σ (12 * r + j)) = 0
    by_cases hz : 12 * r + j = 12 * p + i
    · have e1 : r = p := by omega
      have e2 : j = i := by omega
      rw [e1, e2, (zhears_iff σ p i).mpr ⟨h, hh, hi⟩] at h3
      cases h3
    · rw [if_neg hz]
      exact i_mi0 r j h1 h2 h3
  · show zLat (if 138 = 138 ∧ j = 12 * p + i then L' else zJ σ 138 j)
    split
    · exact hL
    · exact i_lat j
theorem znt_P3 (hI : zI σ) (h3 : zP3 τ σ) {p h i : Nat} {L' : Int32} {G' : Int64} (hp : p < zN σ 1595 0) (hh : h < zN σ 132 p) (hi : zN σ 131 (4 * p + h) = i) : zP3 (zb_sL (zb_sI τ 1066 (4 * p + h) 0 L') 1065 (4 * p + h) 0 G') (zQ_s (zJ_s σ 138 (12 * p + i) L') (12 * p + i) G') := by
  have i1 := zI_pgn hI
  have i2 := zI_idn hI
  have key : ∀ r k, r < zN σ 1595 0 → k < zN σ 132 r → (4 * r + k = 4 * p + h ↔ 12 * r + zN σ 131 (4 * r + k) = 12 * p + i) := by
    intro r k hr hk
    have j1 := zI_hrs hI r k (by omega) hk
    have j2 := zI_hrs hI p h (by omega) hh
    have j3 := zI_hcn hI r
    have j4 := zI_hcn hI p
    constructor
    · intro e
      have e1 : r = p := by omega
      rw [e, hi, e1]
    · intro e
      have e1 : r = p := by omega
      subst e1
      have := zI_dis hI r k h (by omega) hk hh (by omega)
      omega
  obtain ⟨p3_a, p3_r, p3_id, p3_ga, p3_la⟩ := h3
  refine ⟨p3_a, p3_r, p3_id, fun r k hr hk => ?_, fun r k hr hk => ?_⟩
  · have hr : r < zN σ 1595 0 := hr
    have hk : k < zN σ 132 r := hk
    have kk := key r k hr hk
    rw [zb_L_sL]
    show _ = (if 12 * r + zN σ 131 (4 * r + k) = 12 * p + i then G' else zQ σ (12 * r + zN σ 131 (4 * r + k)))
    by_cases hz : 4 * r + k = 4 * p + h
    · rw [if_pos ⟨rfl, hz, rfl⟩, if_pos (kk.mp hz)]
    · rw [if_neg (fun z => hz z.2.1), if_neg (fun z => hz (kk.mpr z))]
      exact p3_ga r k hr hk
  · have hr : r < zN σ 1595 0 := hr
    have hk : k < zN σ 132 r := hk
    have kk := key r k hr hk
    have eJ : ∀ j, zJ (zQ_s (zJ_s σ 138 (12 * p + i) L') (12 * p + i) G') 138 j = if 138 = 138 ∧ j = 12 * p + i then L' else zJ σ 138 j := fun j => rfl
    show zb_I (zb_sI τ 1066 (4 * p + h) 0 L') 1066 (4 * r + k) 0 = zJ (zQ_s (zJ_s σ 138 (12 * p + i) L') (12 * p + i) G') 138 (12 * r + zN σ 131 (4 * r + k))
    rw [eJ, zb_I_sI]
    by_cases hz : 4 * r + k = 4 * p + h
    · rw [if_pos ⟨rfl, hz, rfl⟩, if_pos ⟨rfl, kk.mp hz⟩]
    · rw [if_neg (fun z => hz z.2.1), if_neg (fun z => hz (kk.mpr z.2))]
      exact p3_la r k hr hk
end ZH6
