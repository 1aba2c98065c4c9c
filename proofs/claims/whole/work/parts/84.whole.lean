def R_law : String := "WakingPagersLaw"
def lw_P (b : Addr) (xs : List Int32) (args : Array Value) (s : State) : Prop := args = #[.ref b] ∧ s.IntsAt b xs ∧ xs.length ≤ 2048 ∧ (Jvm.Cond.and given_1 narrow_1).before args s = true
def lw_Q (_ : Array Value) (s : State) (o : Outcome) (t : State) : Prop := o = .returned (some (.int 1)) ∧ Framed s o t [] 600000 7302250
def lw_Z (below : List Frame) (a : Array Value) (s : State) : State → Prop := fun t => ∃ o, t.status = .running ∧ Ended t below o ∧ lw_Q a s o t
/-- the law's own end, with 1 on the stack, nothing written that was there before, its room as the claim has it -/
theorem lw_ret {p : Program} {l : Launch} {e : Env} {s : State} {m : MethodId} {below : List Frame} {meth : Method} {c : Code} {b : Nat} (hx : p.tables.exec = Jvm.exec) (hb : c.code = code) (hr : meth.sig.returnType = ret) (hlocks : meth.locks = false) {pc : Nat} {H : Heap} {ls : Array Slot} (hdg : decode code pc = .ok (.ireturn, 1)) : W p l e room_1 s m #[Value.ref b] below meth c H [] 600000 7302250 (lw_Z below #[Value.ref b] s) (F0 m pc ls [.int 1]) := by
  intro T hT X
  obtain ⟨fs, hret, hrun, hended, hW, hframe⟩ := X.leave (v := some (.int 1)) (hlocks := hlocks) (fun h => by rw [hr] at h; cases h)
  have hmeth' : T.vm.method? m = some meth := X.method'
  refine ⟨T.setFrames fs, ?_, .returned (some (.int 1)), hrun, hended, rfl, ⟨_, rfl⟩, hW, hframe⟩
  jvm_step X.here [X.here.top, hx, hb, hdg, hmeth', hr, ret, narrow_b1]
  (try refine ⟨rfl, ?_⟩); (try refine ⟨rfl, ?_⟩)
  first | (intro acts; rw [hret _ acts rfl rfl rfl]) | rw [hret _ _ rfl rfl rfl]
  exact Steps.refl _
/-- what holds at the law's entry: the machine, the code, the tables' words (any of lw_tbl by 'hts w (by decide +kernel)'), the script of L ints xs at the cell b, what the Statement gives of the start (any of its parts by flat_of_before) -/
def lw_At (p : Program) (s : State) (m : MethodId) (meth : Method) (c : Code) (b L : Nat) (xs : Nat → Int32) : Prop :=
  p.tables.exec = Jvm.exec ∧ c.code = code ∧ meth.sig.returnType = ret ∧ c.maxLocals = 4 ∧ s.vm.findClass R_law = some m.cls ∧ (∀ w ∈ lw_tbl, w.before #[Value.ref b] s = true) ∧ va_X b L xs s s.heap ∧ b < s.heap.size ∧ meth.locks = false ∧ (Jvm.Cond.and given_1 narrow_1).before #[Value.ref b] s = true
/-! the world at the law's entry -/
theorem zt_of {args : Array Value} {s : State} (hts : ∀ w ∈ lw_tbl, w.before args s = true) : ∀ w ∈ zT, w.before args s = true := fun w h => hts w (List.mem_filter.mp h).1
theorem zt_b {args : Array Value} {s : State} (hts : ∀ w ∈ lw_tbl, w.before args s = true) {w : Cond} (i : Nat) (h : tables_1[i]? = some w) : w.before args s = true := hts w (List.mem_append_right _ (List.mem_of_getElem? h))
theorem zt_D {args : Array Value} {s : State} (hts : ∀ w ∈ zT, w.before args s = true) : ∃ D : va_G, ∀ (c : Nat) (q : vw_C), vwCl[c]? = some q → u_Kn s q.1 q.2.1 q.2.2 (D.1 c) (D.2 c) := by
  have h : ∀ c : Nat, ∃ g : ClassId × (Nat → Nat), ∀ q : vw_C, vwCl[c]? = some q → u_Kn s q.1 q.2.1 q.2.2 g.1 g.2 := by
    have go : ∀ {C : String} {T : u_T} {N c : Nat}, vwCl[c]? = some (C, T, N) → (∀ x ∈ u_ws C T N, x ∈ zT) → (∃ n, Cond.instantiable C n ∈ zT) → ∃ g : ClassId × (Nat → Nat), ∀ q : vw_C, vwCl[c]? = some q → u_Kn s q.1 q.2.1 q.2.2 g.1 g.2 := by
      intro C T N c h1 h2 h3
      obtain ⟨n, h3⟩ := h3
      obtain ⟨cC, iS, hk⟩ := u_known hts h2 (hts _ h3)
      refine ⟨(cC, iS), fun q hq => ?_⟩
      rw [h1] at hq
      cases hq
      exact hk
    intro c
    match c with
    | 0 => exact go hc_0 hin_0 ⟨_, zx_46⟩
    | 1 => exact go hc_1 hin_1 ⟨_, zx_332⟩
    | 2 => exact go hc_2 hin_2 ⟨_, zx_174⟩
    | 3 => exact go hc_3 hin_3 ⟨_, zx_31⟩
    | 4 => exact go hc_4 hin_4 ⟨_, zx_61⟩
    | 5 => exact go hc_5 hin_5 ⟨_, zx_369⟩
    | 6 => exact go hc_6 hin_6 ⟨_, zx_234⟩
    | 7 => exact go hc_7 hin_7 ⟨_, zx_243⟩
    | 8 => exact go hc_8 hin_8 ⟨_, zx_17⟩
    | 9 => exact go hc_9 hin_9 ⟨_, zx_617⟩
    | n + 10 => exact ⟨(0, fun _ => 0), fun q hq => by cases hq⟩
  obtain ⟨f, hf⟩ := Classical.axiomOfChoice h
  exact ⟨(fun c => (f c).1, fun c => (f c).2), fun c q hq => hf c q hq⟩
theorem zt_pa {args : Array Value} {s : State} {t : FieldType} (h : (Cond.arrayClass t).before args s = true) (ht : ∀ C, t ≠ .object C) : ∃ c : ClassId, ArrOfT s c t ∧ va_RA s c t := by
  obtain ⟨c, k, comp, h1, h2, h3⟩ := Cond.arrayClass_spec h
  refine ⟨c, fun N z => ⟨(fun k h => by cases h), k, h2, comp, h3⟩, ?_⟩
  cases t with
  | object C => exact absurd rfl (ht C)
  | _ => exact h1
theorem zt_ra {s : State} {C : String} (h : va_AO C s) : ∃ c : ClassId, ArrOfT s c (.object C) ∧ va_RA s c (.object C) := by
  obtain ⟨comp, c, k, h1, -, h3, h4, h5⟩ := Cond.arrayOver_spec h
  exact ⟨c, fun N z => ⟨(fun k h => by cases h), k, h3, comp, h4⟩, k, comp, h3, h4, h1, h5⟩
theorem zt_AO {args : Array Value} {s : State} (hts : ∀ w ∈ lw_tbl, w.before args s = true) : ∀ C ∈ za_L, va_AO C s :=
  List.forall_mem_cons.mpr ⟨va_AO.of (zt_b hts 240 (by decide +kernel)), List.forall_mem_cons.mpr ⟨va_AO.of (zt_b hts 25 (by decide +kernel)), List.forall_mem_cons.mpr ⟨va_AO.of (zt_b hts 29 (by decide +kernel)), List.forall_mem_cons.mpr ⟨va_AO.of (zt_b hts 27 (by decide +kernel)), List.forall_mem_cons.mpr ⟨va_AO.of (zt_b hts 242 (by decide +kernel)), fun _ h => absurd h List.not_mem_nil⟩⟩⟩⟩⟩
theorem zt_N {args : Array Value} {s : State} (hts : ∀ w ∈ lw_tbl, w.before args s = true) : zn_ok s := by
  refine ⟨?_, zt_AO hts, va_Nw.of rfl (zt_b hts 378 (by decide +kernel))⟩
  exact List.forall_mem_cons.mpr ⟨va_Nw.of rfl (zt_b hts 32 (by decide +kernel)), List.forall_mem_cons.mpr ⟨va_Nw.of rfl (zt_b hts 47 (by decide +kernel)), List.forall_mem_cons.mpr ⟨va_Nw.of rfl (zt_b hts 62 (by decide +kernel)), List.forall_mem_cons.mpr ⟨va_Nw.of rfl (zt_b hts 179 (by decide +kernel)), List.forall_mem_cons.mpr ⟨va_Nw.of rfl (zt_b hts 244 (by decide +kernel)), List.forall_mem_cons.mpr ⟨va_Nw.of rfl (zt_b hts 405 (by decide +kernel)), List.forall_mem_cons.mpr ⟨va_Nw.of rfl (zt_b hts 505 (by decide +kernel)), fun _ h => absurd h List.not_mem_nil⟩⟩⟩⟩⟩⟩⟩
theorem zt_K {args : Array Value} {s : State} (hts : ∀ w ∈ lw_tbl, w.before args s = true) : ∃ (D : va_G) (G : zw_G), va_K D vwCl (zw_tys G) s := by
  obtain ⟨D, hD⟩ := zt_D (zt_of hts)
  obtain ⟨c1, p1, q1⟩ := zt_pa (t := .int) (zt_of hts _ zx_44) (fun C h => by cases h)
  obtain ⟨c2, p2, q2⟩ := zt_pa (t := .boolean) (zt_of hts _ zx_732) (fun C h => by cases h)
  obtain ⟨c3, p3, q3⟩ := zt_pa (t := .long) (zt_of hts _ zx_733) (fun C h => by cases h)
  have hr : ∀ ci : Nat, ∃ c : ClassId, ci ∈ zw_rl → ArrOfT s c (.object (zw_nm ci)) ∧ va_RA s c (.object (zw_nm ci)) := by
    intro ci
    by_cases hq : ci ∈ zw_rl
    · have hm : zw_nm ci ∈ za_L := by
        have : ∀ c ∈ zw_rl, zw_nm c ∈ za_L := List.forall_mem_cons.mpr ⟨za_1, List.forall_mem_cons.mpr ⟨za_2, List.forall_mem_cons.mpr ⟨za_5, List.forall_mem_cons.mpr ⟨za_6, List.forall_mem_cons.mpr ⟨za_7, fun _ h => absurd h List.not_mem_nil⟩⟩⟩⟩⟩
        exact this ci hq
      obtain ⟨c, a, b⟩ := zt_ra (zt_AO hts _ hm)
      exact ⟨c, fun _ => ⟨a, b⟩⟩
    · exact ⟨0, fun h => absurd h hq⟩
  obtain ⟨f, hf⟩ := Classical.axiomOfChoice hr
  refine ⟨D, (c1, c2, c3, f), hD, fun k q hk => ?_⟩
  have hm : q ∈ zw_tys (c1, c2, c3, f) := List.mem_of_getElem? hk
  rcases List.mem_append.mp hm with h | h
  · rcases List.mem_cons.mp h with rfl | h
    · exact ⟨p1, q1⟩
    rcases List.mem_cons.mp h with rfl | h
    · exact ⟨p2, q2⟩
    rcases List.mem_cons.mp h with rfl | h
    · exact ⟨p3, q3⟩
    exact absurd h List.not_mem_nil
  · obtain ⟨ci, h1, rfl⟩ := List.mem_map.mp h
    exact hf ci h1
theorem zt_in : ∀ j : Nat, j < 32 → Cond.eq (.elem (.static "WakingPagers$Repairer" "TRACES" "[I") (.int (Int32.ofNat j))) (.int (zs_tr j)) ∈ flatC (Jvm.Cond.and given_1 narrow_1) := by decide +kernel
theorem zt_Z {s : State} {b : Nat} (hts : ∀ w ∈ lw_tbl, w.before #[Value.ref b] s = true) (hg : (Jvm.Cond.and given_1 narrow_1).before #[Value.ref b] s = true) : zs_ok (fun q => s.heap.size ≤ q) s s.heap := by
  refine ⟨zt_N hts, ?_⟩
  have hf := flat_of_before _ hg
  have hA : ∀ a : Nat, a < s.heap.size → ¬ (fun q => s.heap.size ≤ q) a := fun a h q => by
    have q : s.heap.size ≤ a := q
    omega
  obtain ⟨t, h1, h2⟩ := va_Tof (tm := .static "WakingPagers$Repairer" "TRACES" "[I") (ty := .int) (N := 32) (f := fun j => .int (zs_tr j)) (by decide) (hf _ (by decide +kernel)) (va_eqt (hf _ (by decide +kernel))) (fun j hj => va_eqt (hf _ (zt_in j hj))) hA
  exact ⟨t, va_Zref (zt_b hts 161 (by decide +kernel)) (zt_b hts 6 (by decide +kernel)) h1 hA, h2⟩
/-- the law comes to its end with true, if every call keeps a relation that the two new objects have -/
theorem zo_whole {S : Nat → Nat → zw_T → zw_T → Prop} {F : Nat} (hmv : ∀ x m u1 u2 n, S x m u1 u2 → S x m (zw_mv u1 n) u2) (hty : ∀ x m u1 u2, S x m u1 u2 → (zw_ty u1 x).1 = 9 ∧ (zw_ty u2 m).1 = 10) (hop : ∀ x m, zo_all F x m (S x m)) (hini : zo_ini F S)
    {p : Program} {e : Env} {s : State} {m : MethodId} {below : List Frame} {meth : Method} {c : Code} (l : Launch) {b L : Nat} {xs : Nat → Int32} (hL : L ≤ 2048) (C0 : lw_At p s m meth c b L xs) : W p l e room_1 s m #[Value.ref b] below meth c s.heap [] 0 0 (lw_Z below #[Value.ref b] s) (entryFrame m ([Value.ref b] : List Value).toArray 4) := by
  obtain ⟨hx, hb, hr, hml, ho, hts, hscr, hbl, hlk, hg⟩ := C0
  obtain ⟨D, G, hK⟩ := zt_K hts
  have hZ := zt_Z hts hg
  have hX : zg_ok (p, l, e, room_1, s, m, #[Value.ref b], below, meth, c) code "WakingPagersLaw" 4 9 336 128 13000 D G (fun q => s.heap.size ≤ q) := ⟨hx, hb, hml, ho, zt_of hts, hK, fun _ h => h, hlk, rfl, by decide, by decide, rfl, hZ⟩
  have hS : zs_X (p, l, e, room_1, s, m, #[Value.ref b], below, meth, c) (fun q => s.heap.size ≤ q) b L xs := ⟨hscr, hbl, by omega⟩
  have hend : ∀ (w : zw_T) (ck x m' i : Nat), ck ≤ 13000 → zg (p, l, e, room_1, s, m, #[Value.ref b], below, meth, c) D G (fun q => s.heap.size ≤ q) (lw_Z below #[Value.ref b] s) 128 ck w 698 (zo_lv b x m' i) [] := by
    intro w ck x m' i hc
    refine zg_iconst hX dL_698 (1 : Int32) (by decide) ?_
    intro H locs ls h1 h2 h3
    refine va_forget (fun q hq => h3.2.2 q hq) ?_
    exact W.widen (by omega) (by omega) (lw_ret hx hb hr hlk dL_699)
  have hs := zo_start hX hS hL hmv hty hop hini hend s.heap.size
  have he := lv_entry [Value.ref b] (n := 4) (Nat.le_of_ble_eq_true rfl)
  rw [lg_entry_eq]
  refine hs s.heap [] _ ⟨by rw [he.1]; rfl, he.2.1, fun i v hi => ?_⟩ ⟨rfl, fun a ha => ?_⟩ va_S.rf
  · refine he.2.2 (i, v) ?_
    match i, hi with
    | 0, hi => cases hi; exact List.mem_cons_self
    | 1, hi => cases hi
    | 2, hi => cases hi
    | 3, hi => cases hi
    | n + 4, hi => cases hi
  · exact absurd (by rfl) ha
