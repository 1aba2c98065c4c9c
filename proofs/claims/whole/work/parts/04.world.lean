/-! My own words for worlds: a memory w of typed cells (kind, length), of ints, references and longs by (name, address, index), and the heap's size. Kinds: 0 none; ci + 1 an object of row ci of vwCl; 100.. int arrays, 200.. boolean arrays, 300.. long arrays, 400 + ci arrays of references to objects of row ci. A field k of row ci has the name 1000 + 64 * ci + k. -/
def zi_shl (x y : Int32) : Int32 := x <<< (y &&& 31)
def zi_shr (x y : Int32) : Int32 := x >>> (y &&& 31)
def zi_ushr (x y : Int32) : Int32 := (x.toUInt32 >>> (y.toUInt32 &&& Int32.toUInt32 31)).toInt32
def zi_rem (x y : Int32) : Int32 := x - x / y * y
def zi_lshl (x : Int64) (y : Int32) : Int64 := x <<< (y.toInt64 &&& 63)
def zi_lshr (x : Int64) (y : Int32) : Int64 := x >>> (y.toInt64 &&& 63)
def zi_lushr (x : Int64) (y : Int32) : Int64 := (x.toUInt64 >>> (y.toInt64.toUInt64 &&& Int64.toUInt64 63)).toInt64
def zf_let {α β : Type} (x : α) (k : α → β) : β := k x
abbrev zw_T : Type := (Nat → Nat × Nat) × (Nat → Nat → Nat → Int32) × (Nat → Nat → Nat → Option Nat) × (Nat → Nat → Nat → Int64) × Nat
def zw_ty (w : zw_T) : Nat → Nat × Nat := w.1
def zw_I (w : zw_T) : Nat → Nat → Nat → Int32 := w.2.1
def zw_R (w : zw_T) : Nat → Nat → Nat → Option Nat := w.2.2.1
def zw_L (w : zw_T) : Nat → Nat → Nat → Int64 := w.2.2.2.1
def zw_n (w : zw_T) : Nat := w.2.2.2.2
def zw_u2 {α : Type} (f : Nat → Nat → α) (k a : Nat) (v : α) : Nat → Nat → α := fun k' a' => if k' = k ∧ a' = a then v else f k' a'
/-- an int row replaced, an int, a reference, a long written -/
def zw_sF (w : zw_T) (k a : Nat) (f : Nat → Int32) : zw_T := (w.1, zw_u2 w.2.1 k a f, w.2.2)
def zw_sI (w : zw_T) (k a i : Nat) (v : Int32) : zw_T := zw_sF w k a (upd (zw_I w k a) i v)
def zw_sR (w : zw_T) (k a i : Nat) (v : Option Nat) : zw_T := (w.1, w.2.1, zw_u2 w.2.2.1 k a (va_up (zw_R w k a) i v), w.2.2.2)
def zw_sL (w : zw_T) (k a i : Nat) (v : Int64) : zw_T := (w.1, w.2.1, w.2.2.1, zw_u2 w.2.2.2.1 k a (vp_updL (zw_L w k a) i v), w.2.2.2.2)
/-- a new cell at the heap's end -/
def zw_new (w : zw_T) (kd n : Nat) : zw_T := (va_up w.1 (zw_n w) (kd, n), (fun k a => if a = zw_n w then fun _ => 0 else w.2.1 k a), (fun k a => if a = zw_n w then fun _ => none else w.2.2.1 k a), (fun k a => if a = zw_n w then fun _ => 0 else w.2.2.2.1 k a), zw_n w + 1)
def zw_tc (d : String) : Nat := if d = "J" then 2 else if d = "I" then 0 else if d = "Z" then 0 else 1
def zw_nf (ci : Nat) : Nat := match vwCl[ci]? with
  | some q => q.2.2
  | none => 0
def zw_ft (ci k : Nat) : Nat := match vwCl[ci]? with
  | some q => zw_tc (q.2.1 k).2.2.1
  | none => 0
def zw_fv (w : zw_T) (t id a : Nat) : Value := match t with
  | 0 => .int (zw_I w id a 0)
  | 1 => va_rf (zw_R w id a 0)
  | _ => .long (zw_L w id a 0)
def zw_fs (w : zw_T) (ci a : Nat) : List Value := (List.range (zw_nf ci)).map (fun k => zw_fv w (zw_ft ci k) (1000 + 64 * ci + k) a)
abbrev zw_G : Type := ClassId × ClassId × ClassId × (Nat → ClassId)
def zw_cell (G : zw_G) (w : zw_T) (a : Nat) : va_E :=
  if (zw_ty w a).1 < 100 then .inr ((zw_ty w a).1 - 1, zw_fs w ((zw_ty w a).1 - 1) a)
  else if (zw_ty w a).1 < 200 then .inl (G.1, (zw_ty w a).2, .inl (zw_I w (zw_ty w a).1 a))
  else if (zw_ty w a).1 < 300 then .inl (G.2.1, (zw_ty w a).2, .inl (zw_I w (zw_ty w a).1 a))
  else if (zw_ty w a).1 < 400 then .inl (G.2.2.1, (zw_ty w a).2, .inr (.inl (zw_L w (zw_ty w a).1 a)))
  else .inl (G.2.2.2 ((zw_ty w a).1 - 400), (zw_ty w a).2, .inr (.inr (.inr (.inr (zw_R w (zw_ty w a).1 a)))))
/-- the heap holds the memory, all of it in A, and ends where the memory says -/
def zw_ok (D : va_G) (G : zw_G) (A : Nat → Prop) (w : zw_T) (H : Heap) : Prop := H.size = zw_n w ∧ ∀ a, (zw_ty w a).1 ≠ 0 → va_at D vwCl (a, zw_cell G w a) H ∧ A a
theorem zw_one {D : va_G} {cl : List vw_C} {q : Nat × va_E} {H : Heap} (h : va_at D cl q H) : va_P D cl [q] H := by
  intro k x hk
  cases k with
  | zero => cases hk; exact h
  | succ k => simp at hk
theorem zw_cell_o {G : zw_G} {w : zw_T} {a ci : Nat} (h : (zw_ty w a).1 = ci + 1) (hc : ci < 99) : zw_cell G w a = .inr (ci, zw_fs w ci a) := by
  unfold zw_cell
  rw [h, if_pos (by omega)]
  rfl
theorem zw_cell_i {G : zw_G} {w : zw_T} {a kd : Nat} (h : (zw_ty w a).1 = kd) (h1 : 100 ≤ kd) (h2 : kd < 200) : zw_cell G w a = .inl (G.1, (zw_ty w a).2, .inl (zw_I w kd a)) := by
  unfold zw_cell
  rw [h, if_neg (by omega), if_pos (by omega)]
theorem zw_cell_z {G : zw_G} {w : zw_T} {a kd : Nat} (h : (zw_ty w a).1 = kd) (h1 : 200 ≤ kd) (h2 : kd < 300) : zw_cell G w a = .inl (G.2.1, (zw_ty w a).2, .inl (zw_I w kd a)) := by
  unfold zw_cell
  rw [h, if_neg (by omega), if_neg (by omega), if_pos (by omega)]
theorem zw_cell_l {G : zw_G} {w : zw_T} {a kd : Nat} (h : (zw_ty w a).1 = kd) (h1 : 300 ≤ kd) (h2 : kd < 400) : zw_cell G w a = .inl (G.2.2.1, (zw_ty w a).2, .inr (.inl (zw_L w kd a))) := by
  unfold zw_cell
  rw [h, if_neg (by omega), if_neg (by omega), if_neg (by omega), if_pos (by omega)]
theorem zw_cell_r {G : zw_G} {w : zw_T} {a ci : Nat} (h : (zw_ty w a).1 = 400 + ci) : zw_cell G w a = .inl (G.2.2.2 ci, (zw_ty w a).2, .inr (.inr (.inr (.inr (zw_R w (400 + ci) a))))) := by
  unfold zw_cell
  rw [h, if_neg (by omega), if_neg (by omega), if_neg (by omega), if_neg (by omega), Nat.add_sub_cancel_left]
/-- one cell changes -/
theorem zw_move {D : va_G} {G : zw_G} {A : Nat → Prop} {w w' : zw_T} {H H1 : Heap} {a : Nat} (h : zw_ok D G A w H) (hty : zw_ty w' = zw_ty w) (hn : zw_n w' = zw_n w) (hc : ∀ b, b ≠ a → zw_cell G w' b = zw_cell G w b) (ha : va_at D vwCl (a, zw_cell G w' a) H1) (hz : H1.size = H.size) (ho : ∀ q : Nat, q ≠ a → H1[q]? = H[q]?) : zw_ok D G A w' H1 := by
  refine ⟨by rw [hz, hn]; exact h.1, fun b hb => ?_⟩
  rw [hty] at hb
  by_cases hba : b = a
  · subst hba
    exact ⟨ha, (h.2 b hb).2⟩
  · rw [hc b hba]
    exact ⟨(h.2 b hb).1.kept (ho b hba), (h.2 b hb).2⟩
/-- one cell comes -/
theorem zw_born {D : va_G} {G : zw_G} {A : Nat → Prop} {w w' : zw_T} {H H1 : Heap} {kd n : Nat} (h : zw_ok D G A w H) (hw : w' = zw_new w kd n) (ha : va_at D vwCl (zw_n w, zw_cell G w' (zw_n w)) H1) (hA : A (zw_n w)) (hz : H1.size = H.size + 1) (ho : ∀ q : Nat, q < H.size → H1[q]? = H[q]?) : zw_ok D G A w' H1 := by
  subst hw
  refine ⟨by rw [hz, h.1]; rfl, fun b hb => ?_⟩
  by_cases hba : b = zw_n w
  · subst hba
    exact ⟨ha, hA⟩
  · have e1 : zw_ty (zw_new w kd n) b = zw_ty w b := va_up_ne _ _ hba
    have e2 : ∀ k, zw_I (zw_new w kd n) k b = zw_I w k b := fun k => if_neg hba
    have e3 : ∀ k, zw_R (zw_new w kd n) k b = zw_R w k b := fun k => if_neg hba
    have e4 : ∀ k, zw_L (zw_new w kd n) k b = zw_L w k b := fun k => if_neg hba
    have e5 : ∀ ci, zw_fs (zw_new w kd n) ci b = zw_fs w ci b := by
      intro ci
      unfold zw_fs
      apply List.map_congr_left
      intro k _
      unfold zw_fv
      rw [e2, e3, e4]
    have e : zw_cell G (zw_new w kd n) b = zw_cell G w b := by
      unfold zw_cell
      rw [e1, e2, e3, e4, e5]
    rw [e1] at hb
    rw [e]
    exact ⟨(h.2 b hb).1.kept (ho b (h.2 b hb).1.lt), (h.2 b hb).2⟩
theorem zw_u2_ne {α : Type} {f : Nat → Nat → α} {k a k' b : Nat} {v : α} (h : b ≠ a) : zw_u2 f k a v k' b = f k' b := by
  unfold zw_u2
  rw [if_neg (fun q => h q.2)]
theorem zw_u2_eq {α : Type} {f : Nat → Nat → α} {k a : Nat} {v : α} : zw_u2 f k a v k a = v := by
  unfold zw_u2
  rw [if_pos ⟨rfl, rfl⟩]
theorem zw_u2_nk {α : Type} {f : Nat → Nat → α} {k a k' b : Nat} {v : α} (h : k' ≠ k) : zw_u2 f k a v k' b = f k' b := by
  unfold zw_u2
  rw [if_neg (fun q => h q.1)]
theorem zw_same {G : zw_G} {w w' : zw_T} {b : Nat} (h1 : zw_ty w' b = zw_ty w b) (h2 : ∀ k, zw_I w' k b = zw_I w k b) (h3 : ∀ k, zw_R w' k b = zw_R w k b) (h4 : ∀ k, zw_L w' k b = zw_L w k b) : zw_cell G w' b = zw_cell G w b := by
  have e5 : ∀ ci, zw_fs w' ci b = zw_fs w ci b := by
    intro ci
    unfold zw_fs
    apply List.map_congr_left
    intro k _
    unfold zw_fv
    rw [h2, h3, h4]
  unfold zw_cell
  rw [h1, h2, h3, h4, e5]
theorem zw_sF_ne {G : zw_G} {w : zw_T} {k a b : Nat} {f : Nat → Int32} (h : b ≠ a) : zw_cell G (zw_sF w k a f) b = zw_cell G w b := zw_same rfl (fun _ => zw_u2_ne h) (fun _ => rfl) (fun _ => rfl)
theorem zw_sR_ne {G : zw_G} {w : zw_T} {k a b i : Nat} {v : Option Nat} (h : b ≠ a) : zw_cell G (zw_sR w k a i v) b = zw_cell G w b := zw_same rfl (fun _ => rfl) (fun _ => zw_u2_ne h) (fun _ => rfl)
theorem zw_sL_ne {G : zw_G} {w : zw_T} {k a b i : Nat} {v : Int64} (h : b ≠ a) : zw_cell G (zw_sL w k a i v) b = zw_cell G w b := zw_same rfl (fun _ => rfl) (fun _ => rfl) (fun _ => zw_u2_ne h)
/-- a list of the values of a function, one place changed -/
theorem zw_mapset {n k : Nat} {f g : Nat → Value} {v : Value} (hk : k < n) (h1 : g k = v) (h2 : ∀ j, j ≠ k → g j = f j) : (List.range n).map g = ((List.range n).map f).set k v := by
  apply List.ext_getElem?
  intro j
  by_cases hj : j = k
  · subst hj
    rw [List.getElem?_set_self (by simpa using hk), List.getElem?_map, List.getElem?_range hk]
    simp [h1]
  · rw [List.getElem?_set_ne (Ne.symm hj), List.getElem?_map, List.getElem?_map]
    cases hq : (List.range n)[j]? with
    | none => rfl
    | some x =>
      have hx : x = j := by
        obtain ⟨h3, h4⟩ := List.getElem?_eq_some_iff.mp hq
        rw [List.getElem_range] at h4
        exact h4.symm
      subst hx
      simp [h2 x hj]
theorem zw_fs_at {w : zw_T} {ci a k : Nat} (hk : k < zw_nf ci) : (zw_fs w ci a)[k]? = some (zw_fv w (zw_ft ci k) (1000 + 64 * ci + k) a) := by
  unfold zw_fs
  rw [List.getElem?_map, List.getElem?_range hk]
  rfl
theorem zw_fs_len {w : zw_T} {ci a : Nat} : (zw_fs w ci a).length = zw_nf ci := by
  unfold zw_fs
  simp
theorem zw_fs_I {w : zw_T} {ci a k : Nat} {v : Int32} (hk : k < zw_nf ci) (ht : zw_ft ci k = 0) : zw_fs (zw_sI w (1000 + 64 * ci + k) a 0 v) ci a = (zw_fs w ci a).set k (.int v) := by
  unfold zw_fs
  refine zw_mapset hk ?_ ?_
  · rw [ht]
    show Value.int (zw_u2 (α := Nat → Int32) _ _ _ _ _ _ 0) = _
    rw [zw_u2_eq]
    rfl
  · intro j hj
    unfold zw_fv
    have e : zw_I (zw_sI w (1000 + 64 * ci + k) a 0 v) (1000 + 64 * ci + j) a = zw_I w (1000 + 64 * ci + j) a := zw_u2_nk (by omega)
    rw [e]
    rfl
theorem zw_fs_R {w : zw_T} {ci a k : Nat} {v : Option Nat} (hk : k < zw_nf ci) (ht : zw_ft ci k = 1) : zw_fs (zw_sR w (1000 + 64 * ci + k) a 0 v) ci a = (zw_fs w ci a).set k (va_rf v) := by
  unfold zw_fs
  refine zw_mapset hk ?_ ?_
  · rw [ht]
    show va_rf (zw_u2 (α := Nat → Option Nat) _ _ _ _ _ _ 0) = _
    rw [zw_u2_eq]
    rfl
  · intro j hj
    unfold zw_fv
    have e : zw_R (zw_sR w (1000 + 64 * ci + k) a 0 v) (1000 + 64 * ci + j) a = zw_R w (1000 + 64 * ci + j) a := zw_u2_nk (by omega)
    rw [e]
    rfl
theorem zw_fs_L {w : zw_T} {ci a k : Nat} {v : Int64} (hk : k < zw_nf ci) (ht : zw_ft ci k = 2) : zw_fs (zw_sL w (1000 + 64 * ci + k) a 0 v) ci a = (zw_fs w ci a).set k (.long v) := by
  unfold zw_fs
  refine zw_mapset hk ?_ ?_
  · rw [ht]
    show Value.long (zw_u2 (α := Nat → Int64) _ _ _ _ _ _ 0) = _
    rw [zw_u2_eq]
    rfl
  · intro j hj
    unfold zw_fv
    have e : zw_L (zw_sL w (1000 + 64 * ci + k) a 0 v) (1000 + 64 * ci + j) a = zw_L w (1000 + 64 * ci + j) a := zw_u2_nk (by omega)
    rw [e]
    rfl
/-! the locals, by their numbers -/
def zl_has (ls : Array Slot) (lv : List (Option Value)) : Prop := ls.size = lv.length ∧ lv_wf ls ∧ ∀ (i : Nat) (v : Value), lv[i]? = some (some v) → ls[i]? = some (.val v)
def zl_as (lv : List (Option Value)) : List (Nat × Value) := (List.range lv.length).filterMap (fun i => (lv[i]?.join).map (fun v => (i, v)))
def zl_free (lv : List (Option Value)) (i : Nat) : Bool := match i with
  | 0 => true
  | j + 1 => match lv[j]? with
    | some (some w) => w.category == 1
    | _ => true
theorem zl_fq {lv : List (Option Value)} {o : Option Nat} (j : Nat) (h : lv[j]? = some (some (va_rf o))) : zl_free lv (j + 1) = true := by
  unfold zl_free
  simp only [h]
  cases o <;> rfl
theorem zl_mem {lv : List (Option Value)} {i : Nat} {v : Value} : (i, v) ∈ zl_as lv ↔ lv[i]? = some (some v) := by
  unfold zl_as
  rw [List.mem_filterMap]
  constructor
  · rintro ⟨j, -, h⟩
    cases hq : lv[j]? with
    | none => rw [hq] at h; simp at h
    | some o =>
      rw [hq] at h
      cases o with
      | none => simp at h
      | some x =>
        simp at h
        obtain ⟨h1, h2⟩ := h
        subst h1; subst h2
        exact hq
  · intro h
    refine ⟨i, List.mem_range.mpr (List.getElem?_eq_some_iff.mp h).1, ?_⟩
    rw [h]
    rfl
theorem zl_to {ls : Array Slot} {lv : List (Option Value)} (h : zl_has ls lv) : lv_has ls lv.length (zl_as lv) := ⟨h.1, h.2.1, fun q hq => h.2.2 q.1 q.2 (zl_mem.mp hq)⟩
theorem zl_of1 {ls : Array Slot} {lv : List (Option Value)} {i : Nat} {v : Value} (h : lv_has ls lv.length ((i, v) :: (zl_as lv).filter (fun q => !(q.1 == i) && !(q.1 + 1 == i && q.2.category == 2)))) (hi : i < lv.length) (hf : zl_free lv i = true) : zl_has ls (lv.set i (some v)) := by
  refine ⟨by rw [List.length_set]; exact h.1, h.2.1, fun j x hj => ?_⟩
  by_cases hji : j = i
  · subst hji
    rw [List.getElem?_set_self hi] at hj
    cases hj
    exact h.2.2 (j, v) List.mem_cons_self
  · rw [List.getElem?_set_ne (Ne.symm hji)] at hj
    refine h.2.2 (j, x) (List.mem_cons_of_mem _ (List.mem_filter.mpr ⟨zl_mem.mpr hj, ?_⟩))
    have h1 : (j == i) = false := by simpa using hji
    simp only [h1, Bool.not_false, Bool.true_and]
    by_cases h2 : j + 1 = i
    · subst h2
      have h3 : zl_free lv (j + 1) = (x.category == 1) := by
        unfold zl_free
        simp only [hj]
      rw [h3] at hf
      have h4 : x.category = 1 := by simpa using hf
      simp [h4]
    · simp [h2]
theorem zl_of2 {ls : Array Slot} {lv : List (Option Value)} {i : Nat} {v : Value} (h : lv_has ls lv.length ((i, v) :: (zl_as lv).filter (fun q => !(q.1 == i) && (!(q.1 == i + 1) && !(q.1 + 1 == i && q.2.category == 2))))) (hi : i + 1 < lv.length) (hf : zl_free lv i = true) : zl_has ls ((lv.set i (some v)).set (i + 1) none) := by
  refine ⟨by rw [List.length_set, List.length_set]; exact h.1, h.2.1, fun j x hj => ?_⟩
  by_cases hj1 : j = i + 1
  · subst hj1
    rw [List.getElem?_set_self (by rw [List.length_set]; exact hi)] at hj
    cases hj
  · rw [List.getElem?_set_ne (Ne.symm hj1)] at hj
    by_cases hji : j = i
    · subst hji
      rw [List.getElem?_set_self (by omega)] at hj
      cases hj
      exact h.2.2 (j, v) List.mem_cons_self
    · rw [List.getElem?_set_ne (Ne.symm hji)] at hj
      refine h.2.2 (j, x) (List.mem_cons_of_mem _ (List.mem_filter.mpr ⟨zl_mem.mpr hj, ?_⟩))
      have h1 : (j == i) = false := by simpa using hji
      have h1' : (j == i + 1) = false := by simpa using hj1
      simp only [h1, h1', Bool.not_false, Bool.true_and]
      by_cases h2 : j + 1 = i
      · subst h2
        have h3 : zl_free lv (j + 1) = (x.category == 1) := by
          unfold zl_free
          simp only [hj]
        rw [h3] at hf
        have h4 : x.category = 1 := by simpa using hf
        simp [h4]
      · simp [h2]
/-- fewer known locals -/
def zl_le (l' l : List (Option Value)) : Prop := l'.length = l.length ∧ ∀ (i : Nat) (v : Value), l'[i]? = some (some v) → l[i]? = some (some v)
theorem zl_n : zl_le [] [] := ⟨rfl, fun _ _ h => h⟩
theorem zl_k {x : Option Value} {l' l : List (Option Value)} (h : zl_le l' l) : zl_le (x :: l') (x :: l) := by
  refine ⟨by simp [h.1], fun i v hi => ?_⟩
  cases i with
  | zero => exact hi
  | succ i => exact h.2 i v hi
theorem zl_d {x : Option Value} {l' l : List (Option Value)} (h : zl_le l' l) : zl_le (none :: l') (x :: l) := by
  refine ⟨by simp [h.1], fun i v hi => ?_⟩
  cases i with
  | zero => cases hi
  | succ i => exact h.2 i v hi
theorem zl_has_le {ls : Array Slot} {l' l : List (Option Value)} (h : zl_has ls l) (hl : zl_le l' l) : zl_has ls l' := ⟨by rw [hl.1]; exact h.1, h.2.1, fun i v hi => h.2.2 i v (hl.2 i v hi)⟩
/-! the statics that nobody writes; the judgement -/
def zs_tr (j : Nat) : Int32 := ([0x001, 0x003, 0x005, 0x009, 0x011, 0x021, 0x041, 0x081, 0x101, 0x201, 0x401, 0x6D3, 0x377, 0x6ED, 0x30B, 0x615, 0x2FB, 0x5F5, 0x53B, 0x4A7, 0x79F, 0x1EF, 0x3DD, 0x7B9, 0x1A3, 0x345, 0x689, 0x3C3, 0x785, 0x1DB, 0x3B5, 0x769] : List Int32).getD j 0
def zn_ok (U : State) : Prop := (∀ q ∈ zn_L, va_Nw (.methodLinkNest q.1 q.2.1 q.2.2.1 q.2.2.2) U) ∧ (∀ C ∈ za_L, va_AO C U) ∧ va_Nw (.castable "[I" "java/lang/Cloneable") U
def zs_ok (A : Nat → Prop) (U : State) (H : Heap) : Prop := zn_ok U ∧ ∃ t : Nat, va_Z "WakingPagers$Repairer" "TRACES" "[I" (.ref t) A U H ∧ va_T .int t 32 (fun j => .int (zs_tr j)) A U H
