/-! two memories side by side in one heap: the class's and the model's -/
def zw_mv (w : zw_T) (n : Nat) : zw_T := (w.1, w.2.1, w.2.2.1, w.2.2.2.1, n)
def zw_dj (w1 w2 : zw_T) : Prop := ∀ a, (zw_ty w2 a).1 ≠ 0 → (zw_ty w1 a).1 = 0
theorem zw_dj_s {w1 w2 : zw_T} (h : zw_dj w1 w2) : zw_dj w2 w1 := fun a ha => Classical.byContradiction fun q => ha (h a q)
def zw_U (w1 w2 : zw_T) : zw_T := ((fun a => if (zw_ty w1 a).1 = 0 then zw_ty w2 a else zw_ty w1 a), (fun k a => if (zw_ty w1 a).1 = 0 then zw_I w2 k a else zw_I w1 k a), (fun k a => if (zw_ty w1 a).1 = 0 then zw_R w2 k a else zw_R w1 k a), (fun k a => if (zw_ty w1 a).1 = 0 then zw_L w2 k a else zw_L w1 k a), zw_n w1)
theorem zw_U1t {w1 w2 : zw_T} {a : Nat} (h : ¬ (zw_ty w1 a).1 = 0) : zw_ty (zw_U w1 w2) a = zw_ty w1 a := if_neg h
theorem zw_U2t {w1 w2 : zw_T} {a : Nat} (h : (zw_ty w1 a).1 = 0) : zw_ty (zw_U w1 w2) a = zw_ty w2 a := if_pos h
theorem zw_U1 {G : zw_G} {w1 w2 : zw_T} {a : Nat} (h : ¬ (zw_ty w1 a).1 = 0) : zw_cell G (zw_U w1 w2) a = zw_cell G w1 a := zw_same (zw_U1t h) (fun _ => if_neg h) (fun _ => if_neg h) (fun _ => if_neg h)
theorem zw_U2 {G : zw_G} {w1 w2 : zw_T} {a : Nat} (h : (zw_ty w1 a).1 = 0) : zw_cell G (zw_U w1 w2) a = zw_cell G w2 a := zw_same (zw_U2t h) (fun _ => if_pos h) (fun _ => if_pos h) (fun _ => if_pos h)
theorem zu_to {D : va_G} {G : zw_G} {A : Nat → Prop} {w1 w2 : zw_T} {H : Heap} (h1 : zw_ok D G A w1 H) (h2 : zw_ok D G A w2 H) : zw_ok D G A (zw_U w1 w2) H := by
  refine ⟨h1.1, fun a ha => ?_⟩
  by_cases h : (zw_ty w1 a).1 = 0
  · rw [zw_U2t h] at ha
    rw [zw_U2 h]
    exact h2.2 a ha
  · rw [zw_U1 h]
    exact h1.2 a h
theorem zu_of {D : va_G} {G : zw_G} {A : Nat → Prop} {w1 w2 : zw_T} {H : Heap} (h : zw_ok D G A (zw_U w1 w2) H) (hd : zw_dj w1 w2) (hn : zw_n w2 = zw_n w1) : zw_ok D G A w1 H ∧ zw_ok D G A w2 H := by
  refine ⟨⟨h.1, fun a ha => ?_⟩, ⟨by rw [hn]; exact h.1, fun a ha => ?_⟩⟩
  · have h1 := h.2 a (by rw [zw_U1t ha]; exact ha)
    rw [zw_U1 ha] at h1
    exact h1
  · have h1 := h.2 a (by rw [zw_U2t (hd a ha)]; exact ha)
    rw [zw_U2 (hd a ha)] at h1
    exact h1
/-- what a call may change: its own memory's cells, and new ones -/
def zw_A1 (w : zw_T) : Nat → Prop := fun q => (zw_ty w q).1 ≠ 0 ∨ zw_n w ≤ q
theorem zu_A {D : va_G} {G : zw_G} {A : Nat → Prop} {w : zw_T} {s : State} {H : Heap} {locs : List Loc} (g1 : zw_ok D G A w H) (hA : ∀ q, s.heap.size ≤ q → A q) (h3 : va_S A s.heap H locs) : ∀ q, zw_A1 w q → A q := fun q hq => hq.elim (fun h => (g1.2 q h).2) (fun h => hA q (Nat.le_trans h3.1 (by rw [g1.1]; exact h)))
theorem zu_at {D : va_G} {G : zw_G} {A : Nat → Prop} {w : zw_T} {av : List Value} {s : State} {H : Heap} {locs : List Loc} (hK : va_K D vwCl (zw_tys G) s) (hA : ∀ q, s.heap.size ≤ q → A q) (hZ : zs_ok A s s.heap) (g1 : zw_ok D G A w H) (h3 : va_S A s.heap H locs) : ∀ U : State, U.heap = H → s.WarmedH U.vm → va_Pc av (zp_pre D G (zw_A1 w) w) av.toArray U := by
  intro U hU hW
  obtain ⟨hN, t, z1, z2⟩ := zs_keep hZ h3 hU hW
  have hA1 := zu_A g1 hA h3
  exact ⟨rfl, by rw [hU]; exact ⟨g1.1, fun a ha => ⟨(g1.2 a ha).1, Or.inl ha⟩⟩, va_K.moved hW.alike hK, fun q hq => Or.inr (by rw [← g1.1, ← hU]; exact hq), hN, t, z1.narrow hA1, z2.narrow hA1⟩
theorem zu_back {p : Program} {l : Launch} {e : Env} {R : Room} {s : State} {m : MethodId} {args : Array Value} {below : List Frame} {meth : Method} {c : Code} {H : Heap} {locs : List Loc} {ck : Nat} {Q : State → Prop} {pc : Nat} {ls : Array Slot} {st st0 : List Value} {sf sfy mcy mk : Nat} {v : Option Value} {w1 w1' w2 : zw_T} {D : va_G} {G : zw_G} {A : Nat → Prop} {av : Array Value}
    (hA : ∀ q, s.heap.size ≤ q → A q) (hmk : mcy ≤ mk) (hsl : sfy * mcy ≤ sf * mk) (g1 : zw_ok D G A w1 H) (g2 : zw_ok D G A w2 H) (hd : zw_dj w1 w2) (h3 : va_S A s.heap H locs)
    (hr : va_Run p l e R s m args below meth c H locs ck (sf * ck) mcy (sfy * mcy) (F0 m pc ls st0) st (zq D G (zw_A1 w1) (v, w1') av) (zw_A1 w1))
    (kk : ∀ (H1 : Heap) (locs1 : List Loc), zw_ok D G A w1' H1 → zw_ok D G A (zw_mv w2 (zw_n w1')) H1 → zw_dj w1' w2 → va_S A s.heap H1 locs1 → W p l e R s m args below meth c H1 locs1 (ck + mk) (sf * (ck + mk)) Q (F0 m (pc + 3) ls (v.toList ++ st))) : W p l e R s m args below meth c H locs ck (sf * ck) Q (F0 m pc ls st0) := by
  have hA1 := zu_A g1 hA h3
  intro T hT X
  obtain ⟨v', st₀, t, T', L, h0, X', hL, e1, e2, ⟨⟨hv, hw⟩, hz, hk⟩, sp⟩ := hr T hT X
  have hv' : v' = v := by cases hv; rfl
  subst hv'
  have hw : zw_ok D G (zw_A1 w1) w1' t.heap := hw
  rw [h0] at hz hk
  have hle : sf * ck + sfy * mcy ≤ sf * (ck + mk) := by rw [Nat.mul_add]; exact Nat.add_le_add_left hsl _
  have X' := stand_widen X' (Nat.add_le_add_left hmk ck) hle
  have hno : ∀ a, (zw_ty w2 a).1 ≠ 0 → ¬ zw_A1 w1 a := by
    intro a ha hq
    have hlt : a < H.size := (g2.2 a ha).1.lt
    rcases hq with h | h
    · exact h (hd a ha)
    · rw [← g1.1] at h
      omega
  obtain ⟨t2, a1, b1⟩ := kk T'.heap (locs ++ L) (by rw [e1]; exact ⟨hw.1, fun a ha => ⟨(hw.2 a ha).1, hA1 a (hw.2 a ha).2⟩⟩)
    (by
      rw [e1]
      exact ⟨hw.1, fun a ha => ⟨(g2.2 a ha).1.kept (hk a (g2.2 a ha).1.lt (hno a ha)), (g2.2 a ha).2⟩⟩)
    (fun a ha => Classical.byContradiction fun q => hno a ha (hw.2 a q).2)
    ⟨Nat.le_trans h3.1 (by rw [e1]; exact hz), fun q k1 k2 => by rw [e1, hk q (Nat.lt_of_lt_of_le k1 h3.1) (fun z => k2 (hA1 q z))]; exact h3.2.1 q k1 k2, fun q hq => by
      rcases List.mem_append.mp hq with h | h
      · exact h3.2.2 q h
      · exact hA1 _ (hL q h)⟩ T' rfl X'
  exact ⟨t2, sp t2 a1, b1⟩
/-- another memory that says the same of the heap -/
theorem zg_conv {X : zg_X} {D : va_G} {G : zw_G} {A : Nat → Prop} {Q : State → Prop} {sf ck : Nat} {w w' : zw_T} {pc : Nat} {lv : List (Option Value)} {st : List Value} (hc : ∀ H : Heap, zw_ok D G A w H → zw_ok D G A w' H) (k : zg X D G A Q sf ck w' pc lv st) : zg X D G A Q sf ck w pc lv st := by
  obtain ⟨p, l, e, R, s, m, args, below, meth, c⟩ := X
  intro H locs ls h1 h2 h3
  exact k H locs ls h1 (hc H h2) h3
theorem zg_VC {X : zg_X} {D : va_G} {G : zw_G} {A : Nat → Prop} {Q : State → Prop} {sf ck : Nat} {w1 w2 : zw_T} {pc : Nat} {lv : List (Option Value)} {st : List Value} {cc : ByteArray} {own : String} {nL fr lo mc : Nat} {y : MethodName} {ws ws' : List Cond} {bytes : ByteArray} {maxL idx fry loy sfy mcy : Nat} {ret : Option FieldType} {v : Option Value} {w' : zw_T} {st0 : List Value} {a : Nat} {ci N : Nat} {T : u_T} (hdj : zw_dj w1 w2) (hnn : zw_n w2 = zw_n w1) (hc : vwCl[ci]? = some (y.cls, T, N)) (hci : ci < 99) (ha : (zw_ty w1 a).1 = ci + 1) (As : List Value) (hM : ∀ l : Launch, zc l y ws fry loy sfy mcy D G (zw_A1 w1) (.ref a :: As) w1 (v, w')) (hG : GoodIn zT (wsV own idx y.cls y ws)) (hw : ws = Cond.code y bytes maxL ret :: ws') (hd0 : y.cls ≠ "java/lang/invoke/MethodHandle" ∧ y.cls ≠ "java/lang/invoke/VarHandle" ∧ (parseMethodDescriptor y.desc).map (fun d => d.parameters.length) = some As.length) (hR : fry + 1 ≤ fr ∧ 8 + (maxL + 11) + loy ≤ lo) (mk : Nat) (hmk : mcy ≤ mk) (hsl : sfy * mcy ≤ sf * mk) (hcell : ck + mk ≤ mc) (hcat : (st.map fun v => v.category).sum ≤ 8) (hll : lv.length = nL) (hst : st0 = As.reverse ++ .ref a :: st) (hX : zg_ok X cc own nL fr lo sf mc D G A) (hd : decode cc pc = .ok (.invokevirtual idx, 3)) (kk : zw_dj w' w2 → zg X D G A Q sf (ck + mk) (zw_U w' (zw_mv w2 (zw_n w'))) (pc + 3) lv (v.toList ++ st)) : zg X D G A Q sf ck (zw_U w1 w2) pc lv st0 := by
  obtain ⟨p, l, e, R, s, m, args, below, meth, c⟩ := X
  obtain ⟨hx, hb, hml, ho, hts, hK, hA, hlk, hfr, hR1, hR2, hlo, hZ⟩ := hX
  intro H locs ls h1 h2 h3
  subst hst
  obtain ⟨g1, g2⟩ := zu_of h2 hdj hnn
  have hv := (g1.2 a (by rw [ha]; omega)).1
  rw [zw_cell_o ha hci] at hv
  exact zu_back hA hmk hsl g1 g2 hdj h3 (va_runV (As := As) (rest := st) ⟨hx, hb, hml, ho, hts⟩ (hM l) (cwV As.length hts hG hw rfl rfl ⟨rfl, hd0⟩ ⟨by rw [hfr]; exact hR.1, by rw [hlo]; exact hR.2⟩) ⟨zp_blind, va_recv (q0 := 0) hK (zw_one hv) hc rfl, zu_at hK hA hZ g1 h3⟩ rfl rfl (by show ls.size = nL; rw [h1.1]; exact hll) rfl (lv_room hcat) hd ⟨Nat.le_trans (Nat.le_trans (Nat.add_le_add_left hmk ck) hcell) hR1, Nat.le_trans (Nat.le_trans (Nat.add_le_add_left hsl _) (by rw [← Nat.mul_add]; exact Nat.mul_le_mul_left sf hcell)) hR2⟩) (fun H1 locs1 k1 k2 k3 k4 => kk k3 H1 locs1 ls h1 (zu_to k1 k2) k4)
theorem zg_IC {X : zg_X} {D : va_G} {G : zw_G} {A : Nat → Prop} {Q : State → Prop} {sf ck : Nat} {w1 w2 : zw_T} {pc : Nat} {lv : List (Option Value)} {st : List Value} {cc : ByteArray} {own : String} {nL fr lo mc : Nat} {y : MethodName} {ws ws' : List Cond} {bytes : ByteArray} {maxL idx fry loy sfy mcy : Nat} {ret : Option FieldType} {v : Option Value} {w' : zw_T} {st0 : List Value} {a : Nat} (hdj : zw_dj w1 w2) (hnn : zw_n w2 = zw_n w1) (As : List Value) (hM : ∀ l : Launch, zc l y ws fry loy sfy mcy D G (zw_A1 w1) (.ref a :: As) w1 (v, w')) (hret : ret = none) (hy1 : y.name = "<init>") (hG : GoodIn zT ws) (hli : Cond.methodLink own idx y ∈ zT) (hini : Cond.initialized y.cls ∈ zT) (hinst : Cond.instanceMethod y ∈ zT) (hw : ws = Cond.code y bytes maxL ret :: ws') (hd0 : y.cls ≠ "java/lang/invoke/MethodHandle" ∧ y.cls ≠ "java/lang/invoke/VarHandle" ∧ (parseMethodDescriptor y.desc).map (fun d => d.parameters.length) = some As.length) (hR : fry + 1 ≤ fr ∧ 8 + (maxL + 11) + loy ≤ lo) (mk : Nat) (hmk : mcy ≤ mk) (hsl : sfy * mcy ≤ sf * mk) (hcell : ck + mk ≤ mc) (hcat : (st.map fun v => v.category).sum ≤ 8) (hll : lv.length = nL) (hst : st0 = As.reverse ++ .ref a :: st) (hX : zg_ok X cc own nL fr lo sf mc D G A) (hd : decode cc pc = .ok (.invokespecial idx, 3)) (kk : zw_dj w' w2 → zg X D G A Q sf (ck + mk) (zw_U w' (zw_mv w2 (zw_n w'))) (pc + 3) lv (v.toList ++ st)) : zg X D G A Q sf ck (zw_U w1 w2) pc lv st0 := by
  obtain ⟨p, l, e, R, s, m, args, below, meth, c⟩ := X
  obtain ⟨hx, hb, hml, ho, hts, hK, hA, hlk, hfr, hR1, hR2, hlo, hZ⟩ := hX
  intro H locs ls h1 h2 h3
  subst hst
  obtain ⟨g1, g2⟩ := zu_of h2 hdj hnn
  subst hret
  exact zu_back hA hmk hsl g1 g2 hdj h3 (va_runI (As := As) (rest := st) ⟨hx, hb, hml, ho, hts⟩ (hM l) ⟨callB_of As.length hts hG hw rfl rfl (hts _ hini) (hts _ hli) hd0 ⟨by rw [hfr]; exact hR.1, by rw [hlo]; exact hR.2⟩, hy1, hts _ hinst⟩ ⟨zp_blind, zu_at hK hA hZ g1 h3⟩ rfl rfl (by show ls.size = nL; rw [h1.1]; exact hll) rfl (lv_room hcat) hd ⟨Nat.le_trans (Nat.le_trans (Nat.add_le_add_left hmk ck) hcell) hR1, Nat.le_trans (Nat.le_trans (Nat.add_le_add_left hsl _) (by rw [← Nat.mul_add]; exact Nat.mul_le_mul_left sf hcell)) hR2⟩) (fun H1 locs1 k1 k2 k3 k4 => kk k3 H1 locs1 ls h1 (zu_to k1 k2) k4)
theorem zg_VM {X : zg_X} {D : va_G} {G : zw_G} {A : Nat → Prop} {Q : State → Prop} {sf ck : Nat} {w1 w2 : zw_T} {pc : Nat} {lv : List (Option Value)} {st : List Value} {cc : ByteArray} {own : String} {nL fr lo mc : Nat} {y : MethodName} {ws ws' : List Cond} {bytes : ByteArray} {maxL idx fry loy sfy mcy : Nat} {ret : Option FieldType} {v : Option Value} {w' : zw_T} {st0 : List Value} {a : Nat} {ci N : Nat} {T : u_T} (hdj : zw_dj w1 w2) (hnn : zw_n w2 = zw_n w1) (hc : vwCl[ci]? = some (y.cls, T, N)) (hci : ci < 99) (ha : (zw_ty w2 a).1 = ci + 1) (As : List Value) (hM : ∀ l : Launch, zc l y ws fry loy sfy mcy D G (zw_A1 w2) (.ref a :: As) w2 (v, w')) (hG : GoodIn zT (wsV own idx y.cls y ws)) (hw : ws = Cond.code y bytes maxL ret :: ws') (hd0 : y.cls ≠ "java/lang/invoke/MethodHandle" ∧ y.cls ≠ "java/lang/invoke/VarHandle" ∧ (parseMethodDescriptor y.desc).map (fun d => d.parameters.length) = some As.length) (hR : fry + 1 ≤ fr ∧ 8 + (maxL + 11) + loy ≤ lo) (mk : Nat) (hmk : mcy ≤ mk) (hsl : sfy * mcy ≤ sf * mk) (hcell : ck + mk ≤ mc) (hcat : (st.map fun v => v.category).sum ≤ 8) (hll : lv.length = nL) (hst : st0 = As.reverse ++ .ref a :: st) (hX : zg_ok X cc own nL fr lo sf mc D G A) (hd : decode cc pc = .ok (.invokevirtual idx, 3)) (kk : zw_dj w1 w' → zg X D G A Q sf (ck + mk) (zw_U (zw_mv w1 (zw_n w')) w') (pc + 3) lv (v.toList ++ st)) : zg X D G A Q sf ck (zw_U w1 w2) pc lv st0 := by
  obtain ⟨p, l, e, R, s, m, args, below, meth, c⟩ := X
  obtain ⟨hx, hb, hml, ho, hts, hK, hA, hlk, hfr, hR1, hR2, hlo, hZ⟩ := hX
  intro H locs ls h1 h2 h3
  subst hst
  obtain ⟨g1, g2⟩ := zu_of h2 hdj hnn
  have hv := (g2.2 a (by rw [ha]; omega)).1
  rw [zw_cell_o ha hci] at hv
  exact zu_back hA hmk hsl g2 g1 (zw_dj_s hdj) h3 (va_runV (As := As) (rest := st) ⟨hx, hb, hml, ho, hts⟩ (hM l) (cwV As.length hts hG hw rfl rfl ⟨rfl, hd0⟩ ⟨by rw [hfr]; exact hR.1, by rw [hlo]; exact hR.2⟩) ⟨zp_blind, va_recv (q0 := 0) hK (zw_one hv) hc rfl, zu_at hK hA hZ g2 h3⟩ rfl rfl (by show ls.size = nL; rw [h1.1]; exact hll) rfl (lv_room hcat) hd ⟨Nat.le_trans (Nat.le_trans (Nat.add_le_add_left hmk ck) hcell) hR1, Nat.le_trans (Nat.le_trans (Nat.add_le_add_left hsl _) (by rw [← Nat.mul_add]; exact Nat.mul_le_mul_left sf hcell)) hR2⟩) (fun H1 locs1 k1 k2 k3 k4 => kk (zw_dj_s k3) H1 locs1 ls h1 (zu_to k2 k1) k4)
theorem zg_IM {X : zg_X} {D : va_G} {G : zw_G} {A : Nat → Prop} {Q : State → Prop} {sf ck : Nat} {w1 w2 : zw_T} {pc : Nat} {lv : List (Option Value)} {st : List Value} {cc : ByteArray} {own : String} {nL fr lo mc : Nat} {y : MethodName} {ws ws' : List Cond} {bytes : ByteArray} {maxL idx fry loy sfy mcy : Nat} {ret : Option FieldType} {v : Option Value} {w' : zw_T} {st0 : List Value} {a : Nat} (hdj : zw_dj w1 w2) (hnn : zw_n w2 = zw_n w1) (As : List Value) (hM : ∀ l : Launch, zc l y ws fry loy sfy mcy D G (zw_A1 w2) (.ref a :: As) w2 (v, w')) (hret : ret = none) (hy1 : y.name = "<init>") (hG : GoodIn zT ws) (hli : Cond.methodLink own idx y ∈ zT) (hini : Cond.initialized y.cls ∈ zT) (hinst : Cond.instanceMethod y ∈ zT) (hw : ws = Cond.code y bytes maxL ret :: ws') (hd0 : y.cls ≠ "java/lang/invoke/MethodHandle" ∧ y.cls ≠ "java/lang/invoke/VarHandle" ∧ (parseMethodDescriptor y.desc).map (fun d => d.parameters.length) = some As.length) (hR : fry + 1 ≤ fr ∧ 8 + (maxL + 11) + loy ≤ lo) (mk : Nat) (hmk : mcy ≤ mk) (hsl : sfy * mcy ≤ sf * mk) (hcell : ck + mk ≤ mc) (hcat : (st.map fun v => v.category).sum ≤ 8) (hll : lv.length = nL) (hst : st0 = As.reverse ++ .ref a :: st) (hX : zg_ok X cc own nL fr lo sf mc D G A) (hd : decode cc pc = .ok (.invokespecial idx, 3)) (kk : zw_dj w1 w' → zg X D G A Q sf (ck + mk) (zw_U (zw_mv w1 (zw_n w')) w') (pc + 3) lv (v.toList ++ st)) : zg X D G A Q sf ck (zw_U w1 w2) pc lv st0 := by
  obtain ⟨p, l, e, R, s, m, args, below, meth, c⟩ := X
  obtain ⟨hx, hb, hml, ho, hts, hK, hA, hlk, hfr, hR1, hR2, hlo, hZ⟩ := hX
  intro H locs ls h1 h2 h3
  subst hst
  obtain ⟨g1, g2⟩ := zu_of h2 hdj hnn
  subst hret
  exact zu_back hA hmk hsl g2 g1 (zw_dj_s hdj) h3 (va_runI (As := As) (rest := st) ⟨hx, hb, hml, ho, hts⟩ (hM l) ⟨callB_of As.length hts hG hw rfl rfl (hts _ hini) (hts _ hli) hd0 ⟨by rw [hfr]; exact hR.1, by rw [hlo]; exact hR.2⟩, hy1, hts _ hinst⟩ ⟨zp_blind, zu_at hK hA hZ g2 h3⟩ rfl rfl (by show ls.size = nL; rw [h1.1]; exact hll) rfl (lv_room hcat) hd ⟨Nat.le_trans (Nat.le_trans (Nat.add_le_add_left hmk ck) hcell) hR1, Nat.le_trans (Nat.le_trans (Nat.add_le_add_left hsl _) (by rw [← Nat.mul_add]; exact Nat.mul_le_mul_left sf hcell)) hR2⟩) (fun H1 locs1 k1 k2 k3 k4 => kk (zw_dj_s k3) H1 locs1 ls h1 (zu_to k2 k1) k4)
def zs_X (X : zg_X) (A : Nat → Prop) (b L : Nat) (xs : Nat → Int32) : Prop := match X with
  | (_, _, _, _, s, _, _, _, _, _) => va_X b L xs s s.heap ∧ b < s.heap.size ∧ ¬ A b
theorem zg_sld {X : zg_X} {D : va_G} {G : zw_G} {A : Nat → Prop} {Q : State → Prop} {sf ck : Nat} {w : zw_T} {pc : Nat} {lv : List (Option Value)} {st : List Value} {cc : ByteArray} {own : String} {nL fr lo mc : Nat} {b L j : Nat} {xs : Nat → Int32} (hS : zs_X X A b L xs) (hj : j < L) (hL : L < 2 ^ 31) (hX : zg_ok X cc own nL fr lo sf mc D G A) (hd : decode cc pc = .ok (.iaload, 1)) (kk : zg X D G A Q sf ck w (pc + 1) lv (.int (xs j) :: st)) : zg X D G A Q sf ck w pc lv (.int (nI j) :: va_rf (some b) :: st) := by
  obtain ⟨p, l, e, R, s, m, args, below, meth, c⟩ := X
  obtain ⟨hx, hb, hml, ho, hts, hK, hA, hlk, hfr, hR1, hR2, hlo, hZ⟩ := hX
  intro H locs ls h1 h2 h3
  have hc : (nI j).toNatClampNeg = j := nI_clamp (by omega)
  refine va_sld hx hb hS.1 hS.2.1 hS.2.2 h3 (zb_in (nI_pos (by omega)) (by rw [hc]; exact hj)) hd ?_
  rw [hc]
  exact kk H locs ls h1 h2 h3
theorem zg_slen {X : zg_X} {D : va_G} {G : zw_G} {A : Nat → Prop} {Q : State → Prop} {sf ck : Nat} {w : zw_T} {pc : Nat} {lv : List (Option Value)} {st : List Value} {cc : ByteArray} {own : String} {nL fr lo mc : Nat} {b L : Nat} {xs : Nat → Int32} (hS : zs_X X A b L xs) (hX : zg_ok X cc own nL fr lo sf mc D G A) (hd : decode cc pc = .ok (.arraylength, 1)) (kk : zg X D G A Q sf ck w (pc + 1) lv (.int (nI L) :: st)) : zg X D G A Q sf ck w pc lv (va_rf (some b) :: st) := by
  obtain ⟨p, l, e, R, s, m, args, below, meth, c⟩ := X
  obtain ⟨hx, hb, hml, ho, hts, hK, hA, hlk, hfr, hR1, hR2, hlo, hZ⟩ := hX
  intro H locs ls h1 h2 h3
  exact va_slen hx hb hS.1 hS.2.1 hS.2.2 h3 hd (kk H locs ls h1 h2 h3)
