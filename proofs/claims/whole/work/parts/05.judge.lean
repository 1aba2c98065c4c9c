/-! The judgement zg: the machine, anywhere in a method with the memory w, comes to its end as Q says. -/
def zw_nm (ci : Nat) : String := match vwCl[ci]? with
  | some q => q.1
  | none => ""
def zw_tys (G : zw_G) : List (ClassId × FieldType) := [(G.1, .int), (G.2.1, .boolean), (G.2.2.1, .long)] ++ zw_rl.map (fun ci => (G.2.2.2 ci, .object (zw_nm ci)))
abbrev zg_X : Type := Program × Launch × Env × Room × State × MethodId × Array Value × List Frame × Method × Code
def zg_ok (X : zg_X) (cc : ByteArray) (own : String) (nL fr lo sf mc : Nat) (D : va_G) (G : zw_G) (A : Nat → Prop) : Prop := match X with
  | (p, _, _, R, s, m, args, _, meth, c) => p.tables.exec = Jvm.exec ∧ c.code = cc ∧ c.maxLocals = nL ∧ s.vm.findClass own = some m.cls ∧ (∀ q ∈ zT, q.before args s = true) ∧ va_K D vwCl (zw_tys G) s ∧ (∀ q, s.heap.size ≤ q → A q) ∧ meth.locks = false ∧ R.frames = fr ∧ mc ≤ R.cells ∧ sf * mc ≤ R.slots ∧ R.locals = lo ∧ zs_ok A s s.heap
def zg (X : zg_X) (D : va_G) (G : zw_G) (A : Nat → Prop) (Q : State → Prop) (sf ck : Nat) (w : zw_T) (pc : Nat) (lv : List (Option Value)) (st : List Value) : Prop := match X with
  | (p, l, e, R, s, m, args, below, meth, c) => ∀ (H : Heap) (locs : List Loc) (ls : Array Slot), zl_has ls lv → zw_ok D G A w H → va_S A s.heap H locs → W p l e R s m args below meth c H locs ck (sf * ck) Q (F0 m pc ls st)
theorem zg_sub {X : zg_X} {D : va_G} {G : zw_G} {A : Nat → Prop} {Q : State → Prop} {sf ck : Nat} {w : zw_T} {pc : Nat} {lv lv' : List (Option Value)} {st : List Value} (hl : zl_le lv' lv) (k : zg X D G A Q sf ck w pc lv' st) : zg X D G A Q sf ck w pc lv st := by
  obtain ⟨p, l, e, R, s, m, args, below, meth, c⟩ := X
  intro H locs ls h1 h2 h3
  exact k H locs ls (zl_has_le h1 hl) h2 h3
theorem zg_wide {X : zg_X} {D : va_G} {G : zw_G} {A : Nat → Prop} {Q : State → Prop} {sf ck ck' : Nat} {w : zw_T} {pc : Nat} {lv : List (Option Value)} {st : List Value} (hl : ck ≤ ck') (k : zg X D G A Q sf ck' w pc lv st) : zg X D G A Q sf ck w pc lv st := by
  obtain ⟨p, l, e, R, s, m, args, below, meth, c⟩ := X
  intro H locs ls h1 h2 h3
  exact W.widen hl (Nat.mul_le_mul_left sf hl) (k H locs ls h1 h2 h3)
/-! contracts: a method does what a function of mine says -/
def zp_pre (D : va_G) (G : zw_G) (A : Nat → Prop) (w : zw_T) (U : State) : Prop := zw_ok D G A w U.heap ∧ va_K D vwCl (zw_tys G) U ∧ (∀ q, U.heap.size ≤ q → A q) ∧ zs_ok A U U.heap
def zq (D : va_G) (G : zw_G) (A : Nat → Prop) (res : Option Value × zw_T) : Array Value → State → Outcome → State → Prop := fun _ st oc t => (oc = .returned res.1 ∧ zw_ok D G A res.2 t.heap) ∧ va_F A st t
def zc_rm (fr lo sf mc : Nat) : Room := { frames := fr, cells := mc, slots := sf * mc, locals := lo }
def zc (l : Launch) (y : MethodName) (ws : List Cond) (fr lo sf mc : Nat) (D : va_G) (G : zw_G) (A : Nat → Prop) (av : List Value) (w : zw_T) (res : Option Value × zw_T) : Prop := Met l y ws (zc_rm fr lo sf mc) (va_Pc av (zp_pre D G A w)) (zq D G A res) mc (sf * mc) A
def zr_i (r : Int32 × zw_T) : Option Value × zw_T := (some (.int r.1), r.2)
def zr_l (r : Int64 × zw_T) : Option Value × zw_T := (some (.long r.1), r.2)
def zr_r (r : Option Nat × zw_T) : Option Value × zw_T := (some (va_rf r.1), r.2)
def zr_v (r : zw_T) : Option Value × zw_T := (none, r)
theorem zs_keep {A : Nat → Prop} {s U : State} {H : Heap} {locs : List Loc} (hZ : zs_ok A s s.heap) (h3 : va_S A s.heap H locs) (hU : U.heap = H) (hW : s.WarmedH U.vm) : zs_ok A U U.heap := by
  obtain ⟨hN, t, z1, z2⟩ := hZ
  rw [hU]
  exact ⟨⟨fun q hq => (hN.1 q hq).warmM hW, fun C hC => (hN.2.1 C hC).moved hW.alike, hN.2.2.warmC hW⟩, t, (z1.kept (fun a h h' => h3.2.1 a h h')).moved hW.alike, (z2.kept (fun a h h' => h3.2.1 a h h')).moved hW.alike⟩
theorem zp_blind {D : va_G} {G : zw_G} {A : Nat → Prop} {w : zw_T} {av : List Value} : FrameBlind (va_Pc av (zp_pre D G A w)) := by
  intro a U g mk q
  obtain ⟨q0, q1, q2, q3, hN, t, z1, z2⟩ := q
  exact ⟨q0, q1, va_K.moved (u := U) (U := U.calling g mk a) (Vm.Alike.refl U.vm) q2, q3, ⟨fun q hq => (hN.1 q hq).same rfl rfl, fun C hC => va_AO.moved (u := U) (U := U.calling g mk a) (Vm.Alike.refl U.vm) (hN.2.1 C hC), hN.2.2.same rfl rfl⟩, t, va_Z.moved (u := U) (U := U.calling g mk a) (Vm.Alike.refl U.vm) z1, va_T.moved (u := U) (U := U.calling g mk a) (Vm.Alike.refl U.vm) z2⟩
theorem zp_at {D : va_G} {G : zw_G} {A : Nat → Prop} {w : zw_T} {av : List Value} {s : State} {H : Heap} {locs : List Loc} (hK : va_K D vwCl (zw_tys G) s) (hA : ∀ q, s.heap.size ≤ q → A q) (hZ : zs_ok A s s.heap) (h2 : zw_ok D G A w H) (h3 : va_S A s.heap H locs) : ∀ U : State, U.heap = H → s.WarmedH U.vm → va_Pc av (zp_pre D G A w) av.toArray U :=
  fun U hU hW => ⟨rfl, by rw [hU]; exact h2, va_K.moved hW.alike hK, fun q hq => hA q (Nat.le_trans h3.1 (by rw [← hU]; exact hq)), zs_keep hZ h3 hU hW⟩
/-- behind a call -/
theorem zg_back {p : Program} {l : Launch} {e : Env} {R : Room} {s : State} {m : MethodId} {args : Array Value} {below : List Frame} {meth : Method} {c : Code} {H : Heap} {locs : List Loc} {ck : Nat} {Q : State → Prop} {pc : Nat} {ls : Array Slot} {st st0 : List Value} {sf sfy mcy : Nat} {res : Option Value × zw_T} {D : va_G} {G : zw_G} {A : Nat → Prop} {av : Array Value}
    (hsf : sfy ≤ sf) (hr : va_Run p l e R s m args below meth c H locs ck (sf * ck) mcy (sfy * mcy) (F0 m pc ls st0) st (zq D G A res av) A) (h3 : va_S A s.heap H locs)
    (kk : ∀ (H1 : Heap) (locs1 : List Loc), zw_ok D G A res.2 H1 → va_S A s.heap H1 locs1 → W p l e R s m args below meth c H1 locs1 (ck + mcy) (sf * (ck + mcy)) Q (F0 m (pc + 3) ls (res.1.toList ++ st))) : W p l e R s m args below meth c H locs ck (sf * ck) Q (F0 m pc ls st0) := by
  intro T hT X
  obtain ⟨v, st₀, t, T', L, h0, X', hL, e1, e2, ⟨⟨hv, hw⟩, hz, hk⟩, sp⟩ := hr T hT X
  have hv' : v = res.1 := by cases hv; rfl
  subst hv'
  rw [h0] at hz hk
  have hle : sf * ck + sfy * mcy ≤ sf * (ck + mcy) := by rw [Nat.mul_add]; exact Nat.add_le_add_left (Nat.mul_le_mul_right mcy hsf) _
  have X' := stand_widen X' (Nat.le_refl _) hle
  obtain ⟨t2, a1, b1⟩ := kk T'.heap (locs ++ L) (by rw [e1]; exact hw) ⟨Nat.le_trans h3.1 (by rw [e1]; exact hz), fun q g1 g2 => by rw [e1, hk q (Nat.lt_of_lt_of_le g1 h3.1) g2]; exact h3.2.1 q g1 g2, fun q hq => by
      rcases List.mem_append.mp hq with h | h
      · exact h3.2.2 q h
      · exact hL q h⟩ T' rfl X'
  exact ⟨t2, sp t2 a1, b1⟩
def zg_Q (X : zg_X) (D : va_G) (G : zw_G) (A : Nat → Prop) (sf mc : Nat) (res : Option Value × zw_T) : State → Prop := match X with
  | (_, _, _, _, s, _, args, below, _, _) => MQ below (zq D G A res) args s mc (sf * mc) A
def zg_rt (X : zg_X) : Option FieldType := match X with
  | (_, _, _, _, _, _, _, _, meth, _) => meth.sig.returnType
def zg_nm (X : zg_X) : String := match X with
  | (_, _, _, _, _, _, _, _, meth, _) => meth.name
/-- a contract out of a walk, for a method that no row of the natives stands in for -/
theorem zm_ofF {l : Launch} {y : MethodName} {ws ws' : List Cond} {rm : Room} {Pc : Array Value → State → Prop} {Qc : Array Value → State → Outcome → State → Prop} {mc ms : Nat} {free : Addr → Prop} {cc : ByteArray} {maxL : Nat} {ret : Option FieldType}
    (hy : plainFor y = true) (hw : ws = Cond.code y cc maxL ret :: ws')
    (body : ∀ p e s m args below meth c s₁, BodyLoose p l y (headSpec ws rm) cc maxL ret e s m args below meth c s₁ → c.maxLocals = maxL → Pc args s →
      W p l e (headSpec ws rm).room s m args below meth c s.heap [] 0 0 (MQ below Qc args s mc ms free) (entryFrame m args maxL)) : Met l y ws rm Pc Qc mc ms free := by
  refine MetFree.of_bodySF (code := cc) (maxLocals := maxL) (ret := ret) hy (fun args s m h hn => ?_) (fun p e s m args below meth c s₁ B hml hP _ => ?_)
  · obtain ⟨meth, c, h1, h2, h3, h4, h5, h6, -, -⟩ := Cond.code_spec hn (atoms_spec (ws := ws) h _ (by rw [hw]; exact List.mem_cons_self))
    exact ⟨meth, c, h1, h2, h3, h4, h5, h6⟩
  · obtain ⟨t, a1, o, b1, b2, b3⟩ := body p e s m args below meth c s₁ B hml hP s₁ (by rw [B.state]; rfl) (Stand.of_body B)
    exact ⟨t, o, a1, b1, b2, ⟨b3.1, b3.2⟩⟩
/-- a contract out of a walk from the entry -/
theorem zc_of {l : Launch} {y : MethodName} {ws : List Cond} {cc : ByteArray} {maxL fr lo sf mc : Nat} {ret : Option FieldType} {D : va_G} {G : zw_G} {A : Nat → Prop} {av : List Value} {w : zw_T} {res : Option Value × zw_T} (lv : List (Option Value))
    (hy : plainFor y = true) (hw : ws = Cond.code y cc maxL ret :: zT) (hn : (lg_sl av).length ≤ maxL) (hl : zl_as lv = lv_args 0 av) (hlen : lv.length = maxL)
    (body : ∀ X : zg_X, zg_ok X cc y.cls maxL fr lo sf mc D G A → zg_rt X = ret → zg_nm X = y.name → zg X D G A (zg_Q X D G A sf mc res) sf 0 w 0 lv []) : zc l y ws fr lo sf mc D G A av w res := by
  refine zm_ofF (cc := cc) (maxL := maxL) (ret := ret) hy hw ?_
  intro p e s m args below meth c s₁ B hml hv
  obtain ⟨rfl, hW, hK, hA, hZ⟩ := hv
  have hts := fun q hq => atoms_spec (ws := ws) B.pre q (by rw [hw]; exact List.mem_cons_of_mem _ hq)
  have hb := body (p, l, e, zc_rm fr lo sf mc, s, m, av.toArray, below, meth, c) ⟨B.exec, B.bytes, hml, findClass_of_methodNamed B.named, hts, hK, hA, B.notSynchronized, rfl, Nat.le_refl _, Nat.le_refl _, rfl, hZ⟩ B.returns (name_of_methodNamed B.named B.method).1
  have he := lv_entry av (n := maxL) hn
  rw [lg_entry_eq]
  refine hb s.heap [] _ ⟨by rw [hlen]; exact he.1, he.2.1, fun i v hi => ?_⟩ hW va_S.rf
  refine he.2.2 (i, v) ?_
  rw [← hl]
  exact zl_mem.mpr hi
/-! ends -/
theorem zq_end {D : va_G} {G : zw_G} {A : Nat → Prop} {s : State} {H : Heap} {locs : List Loc} {args : Array Value} {v : Option Value} {w : zw_T} (h2 : zw_ok D G A w H) (h3 : va_S A s.heap H locs) : ∀ t : State, t.heap = H → s.WarmedH t.vm → zq D G A (v, w) args s (.returned v) t :=
  fun t ht _ => ⟨⟨rfl, by rw [ht]; exact h2⟩, h3.F ht⟩
theorem zg_iret {X : zg_X} {D : va_G} {G : zw_G} {A : Nat → Prop} {ck : Nat} {w : zw_T} {pc : Nat} {lv : List (Option Value)} {cc : ByteArray} {own : String} {nL fr lo sf mc : Nat} {v : Int32} (hX : zg_ok X cc own nL fr lo sf mc D G A) (hr : zg_rt X = some .int) (hc : ck ≤ mc) (hd : decode cc pc = .ok (.ireturn, 1)) : zg X D G A (zg_Q X D G A sf mc (some (.int v), w)) sf ck w pc lv [.int v] := by
  refine zg_wide hc ?_
  obtain ⟨p, l, e, R, s, m, args, below, meth, c⟩ := X
  obtain ⟨hx, hb, hml, ho, hts, hK, hA, hlk, hfr, hR1, hR2, hlo, hZ⟩ := hX
  intro H locs ls h1 h2 h3
  exact W.iret hx hb hr (zq_end h2 h3) h3.2.2 hd hlk
theorem zg_zret {X : zg_X} {D : va_G} {G : zw_G} {A : Nat → Prop} {ck : Nat} {w : zw_T} {pc : Nat} {lv : List (Option Value)} {cc : ByteArray} {own : String} {nL fr lo sf mc : Nat} {v : Int32} (hX : zg_ok X cc own nL fr lo sf mc D G A) (hr : zg_rt X = some .boolean) (hn : narrow .boolean (.int v) = .int v) (hc : ck ≤ mc) (hd : decode cc pc = .ok (.ireturn, 1)) : zg X D G A (zg_Q X D G A sf mc (some (.int v), w)) sf ck w pc lv [.int v] := by
  refine zg_wide hc ?_
  obtain ⟨p, l, e, R, s, m, args, below, meth, c⟩ := X
  obtain ⟨hx, hb, hml, ho, hts, hK, hA, hlk, hfr, hR1, hR2, hlo, hZ⟩ := hX
  intro H locs ls h1 h2 h3
  exact W.zret hx hb hr hn (zq_end h2 h3) h3.2.2 hd hlk
theorem zg_lret {X : zg_X} {D : va_G} {G : zw_G} {A : Nat → Prop} {ck : Nat} {w : zw_T} {pc : Nat} {lv : List (Option Value)} {cc : ByteArray} {own : String} {nL fr lo sf mc : Nat} {v : Int64} (hX : zg_ok X cc own nL fr lo sf mc D G A) (hr : zg_rt X = some .long) (hc : ck ≤ mc) (hd : decode cc pc = .ok (.lreturn, 1)) : zg X D G A (zg_Q X D G A sf mc (some (.long v), w)) sf ck w pc lv [.long v] := by
  refine zg_wide hc ?_
  obtain ⟨p, l, e, R, s, m, args, below, meth, c⟩ := X
  obtain ⟨hx, hb, hml, ho, hts, hK, hA, hlk, hfr, hR1, hR2, hlo, hZ⟩ := hX
  intro H locs ls h1 h2 h3
  exact W.lret hx hb hr (zq_end h2 h3) h3.2.2 hd hlk
theorem zg_vret {X : zg_X} {D : va_G} {G : zw_G} {A : Nat → Prop} {ck : Nat} {w : zw_T} {pc : Nat} {lv : List (Option Value)} {cc : ByteArray} {own : String} {nL fr lo sf mc : Nat} (hX : zg_ok X cc own nL fr lo sf mc D G A) (hr : zg_rt X = none) (hc : ck ≤ mc) (hd : decode cc pc = .ok (.return_, 1)) : zg X D G A (zg_Q X D G A sf mc (none, w)) sf ck w pc lv [] := by
  refine zg_wide hc ?_
  obtain ⟨p, l, e, R, s, m, args, below, meth, c⟩ := X
  obtain ⟨hx, hb, hml, ho, hts, hK, hA, hlk, hfr, hR1, hR2, hlo, hZ⟩ := hX
  intro H locs ls h1 h2 h3
  exact W.vret hx hb hr (zq_end h2 h3) h3.2.2 hd hlk
theorem zg_aret {X : zg_X} {D : va_G} {G : zw_G} {A : Nat → Prop} {ck : Nat} {w : zw_T} {pc : Nat} {lv : List (Option Value)} {cc : ByteArray} {own : String} {nL fr lo sf mc : Nat} {v : Option Nat} (rt : FieldType) (hX : zg_ok X cc own nL fr lo sf mc D G A) (hr : zg_rt X = some rt) (hrt : (∃ n, rt = .object n) ∨ ∃ t, rt = .array t) (hc : ck ≤ mc) (hd : decode cc pc = .ok (.areturn, 1)) : zg X D G A (zg_Q X D G A sf mc (some (va_rf v), w)) sf ck w pc lv [va_rf v] := by
  refine zg_wide hc ?_
  obtain ⟨p, l, e, R, s, m, args, below, meth, c⟩ := X
  obtain ⟨hx, hb, hml, ho, hts, hK, hA, hlk, hfr, hR1, hR2, hlo, hZ⟩ := hX
  intro H locs ls h1 h2 h3
  exact W.aret hx hb hr hrt (va_rf_or v) (zq_end h2 h3) h3.2.2 hd hlk
