theorem zg_iconst {X : zg_X} {D : va_G} {G : zw_G} {A : Nat → Prop} {Q : State → Prop} {sf ck : Nat} {w : zw_T} {pc : Nat} {lv : List (Option Value)} {st : List Value} {cc : ByteArray} {own : String} {nL fr lo mc : Nat} {n : Int} (hX : zg_ok X cc own nL fr lo sf mc D G A) (hd : decode cc pc = .ok (.iconst n, 1)) (v : Int32) (hv : Int32.ofInt n = v) (k : zg X D G A Q sf ck w (pc + 1) lv (.int v :: st)) : zg X D G A Q sf ck w pc lv st := by
  obtain ⟨p, l, e, R, s, m, args, below, meth, c⟩ := X
  obtain ⟨hx, hb, hml, ho, hts, hK, hA, hlk, hfr, hR1, hR2, hlo, hZ⟩ := hX
  intro H locs ls h1 h2 h3
  exact lv_iconst hx hb hd hv (k H locs ls h1 h2 h3)
theorem zg_bipush {X : zg_X} {D : va_G} {G : zw_G} {A : Nat → Prop} {Q : State → Prop} {sf ck : Nat} {w : zw_T} {pc : Nat} {lv : List (Option Value)} {st : List Value} {cc : ByteArray} {own : String} {nL fr lo mc : Nat} {n : Int} (hX : zg_ok X cc own nL fr lo sf mc D G A) (hd : decode cc pc = .ok (.bipush n, 2)) (v : Int32) (hv : (Int8.ofInt n).toInt32 = v) (k : zg X D G A Q sf ck w (pc + 2) lv (.int v :: st)) : zg X D G A Q sf ck w pc lv st := by
  obtain ⟨p, l, e, R, s, m, args, below, meth, c⟩ := X
  obtain ⟨hx, hb, hml, ho, hts, hK, hA, hlk, hfr, hR1, hR2, hlo, hZ⟩ := hX
  intro H locs ls h1 h2 h3
  exact lv_bipush hx hb hd hv (k H locs ls h1 h2 h3)
theorem zg_sipush {X : zg_X} {D : va_G} {G : zw_G} {A : Nat → Prop} {Q : State → Prop} {sf ck : Nat} {w : zw_T} {pc : Nat} {lv : List (Option Value)} {st : List Value} {cc : ByteArray} {own : String} {nL fr lo mc : Nat} {n : Int} (hX : zg_ok X cc own nL fr lo sf mc D G A) (hd : decode cc pc = .ok (.sipush n, 3)) (v : Int32) (hv : (Int16.ofInt n).toInt32 = v) (k : zg X D G A Q sf ck w (pc + 3) lv (.int v :: st)) : zg X D G A Q sf ck w pc lv st := by
  obtain ⟨p, l, e, R, s, m, args, below, meth, c⟩ := X
  obtain ⟨hx, hb, hml, ho, hts, hK, hA, hlk, hfr, hR1, hR2, hlo, hZ⟩ := hX
  intro H locs ls h1 h2 h3
  exact lv_sipush hx hb hd hv (k H locs ls h1 h2 h3)
theorem zg_lconst {X : zg_X} {D : va_G} {G : zw_G} {A : Nat → Prop} {Q : State → Prop} {sf ck : Nat} {w : zw_T} {pc : Nat} {lv : List (Option Value)} {st : List Value} {cc : ByteArray} {own : String} {nL fr lo mc : Nat} {n : Fin 2} (hX : zg_ok X cc own nL fr lo sf mc D G A) (hd : decode cc pc = .ok (.lconst n, 1)) (v : Int64) (hv : Int64.ofNat (n : Nat) = v) (k : zg X D G A Q sf ck w (pc + 1) lv (.long v :: st)) : zg X D G A Q sf ck w pc lv st := by
  obtain ⟨p, l, e, R, s, m, args, below, meth, c⟩ := X
  obtain ⟨hx, hb, hml, ho, hts, hK, hA, hlk, hfr, hR1, hR2, hlo, hZ⟩ := hX
  intro H locs ls h1 h2 h3
  exact lv_lconst hx hb hd hv (k H locs ls h1 h2 h3)
theorem zg_null {X : zg_X} {D : va_G} {G : zw_G} {A : Nat → Prop} {Q : State → Prop} {sf ck : Nat} {w : zw_T} {pc : Nat} {lv : List (Option Value)} {st : List Value} {cc : ByteArray} {own : String} {nL fr lo mc : Nat}  (hX : zg_ok X cc own nL fr lo sf mc D G A) (hd : decode cc pc = .ok (.aconst_null, 1))  (k : zg X D G A Q sf ck w (pc + 1) lv (va_rf none :: st)) : zg X D G A Q sf ck w pc lv st := by
  obtain ⟨p, l, e, R, s, m, args, below, meth, c⟩ := X
  obtain ⟨hx, hb, hml, ho, hts, hK, hA, hlk, hfr, hR1, hR2, hlo, hZ⟩ := hX
  intro H locs ls h1 h2 h3
  exact lv_null hx hb hd (k H locs ls h1 h2 h3)
theorem zg_iadd {X : zg_X} {D : va_G} {G : zw_G} {A : Nat → Prop} {Q : State → Prop} {sf ck : Nat} {w : zw_T} {pc : Nat} {lv : List (Option Value)} {st : List Value} {cc : ByteArray} {own : String} {nL fr lo mc : Nat} {x y : Int32} (hX : zg_ok X cc own nL fr lo sf mc D G A) (hd : decode cc pc = .ok (.iadd, 1))  (k : zg X D G A Q sf ck w (pc + 1) lv (.int (x + y) :: st)) : zg X D G A Q sf ck w pc lv (.int y :: .int x :: st) := by
  obtain ⟨p, l, e, R, s, m, args, below, meth, c⟩ := X
  obtain ⟨hx, hb, hml, ho, hts, hK, hA, hlk, hfr, hR1, hR2, hlo, hZ⟩ := hX
  intro H locs ls h1 h2 h3
  exact lv_iadd hx hb hd (k H locs ls h1 h2 h3)
theorem zg_isub {X : zg_X} {D : va_G} {G : zw_G} {A : Nat → Prop} {Q : State → Prop} {sf ck : Nat} {w : zw_T} {pc : Nat} {lv : List (Option Value)} {st : List Value} {cc : ByteArray} {own : String} {nL fr lo mc : Nat} {x y : Int32} (hX : zg_ok X cc own nL fr lo sf mc D G A) (hd : decode cc pc = .ok (.isub, 1))  (k : zg X D G A Q sf ck w (pc + 1) lv (.int (x - y) :: st)) : zg X D G A Q sf ck w pc lv (.int y :: .int x :: st) := by
  obtain ⟨p, l, e, R, s, m, args, below, meth, c⟩ := X
  obtain ⟨hx, hb, hml, ho, hts, hK, hA, hlk, hfr, hR1, hR2, hlo, hZ⟩ := hX
  intro H locs ls h1 h2 h3
  exact lv_isub hx hb hd (k H locs ls h1 h2 h3)
theorem zg_imul {X : zg_X} {D : va_G} {G : zw_G} {A : Nat → Prop} {Q : State → Prop} {sf ck : Nat} {w : zw_T} {pc : Nat} {lv : List (Option Value)} {st : List Value} {cc : ByteArray} {own : String} {nL fr lo mc : Nat} {x y : Int32} (hX : zg_ok X cc own nL fr lo sf mc D G A) (hd : decode cc pc = .ok (.imul, 1))  (k : zg X D G A Q sf ck w (pc + 1) lv (.int (x * y) :: st)) : zg X D G A Q sf ck w pc lv (.int y :: .int x :: st) := by
  obtain ⟨p, l, e, R, s, m, args, below, meth, c⟩ := X
  obtain ⟨hx, hb, hml, ho, hts, hK, hA, hlk, hfr, hR1, hR2, hlo, hZ⟩ := hX
  intro H locs ls h1 h2 h3
  exact lv_imul hx hb hd (k H locs ls h1 h2 h3)
theorem zg_iand {X : zg_X} {D : va_G} {G : zw_G} {A : Nat → Prop} {Q : State → Prop} {sf ck : Nat} {w : zw_T} {pc : Nat} {lv : List (Option Value)} {st : List Value} {cc : ByteArray} {own : String} {nL fr lo mc : Nat} {x y : Int32} (hX : zg_ok X cc own nL fr lo sf mc D G A) (hd : decode cc pc = .ok (.iand, 1))  (k : zg X D G A Q sf ck w (pc + 1) lv (.int (x &&& y) :: st)) : zg X D G A Q sf ck w pc lv (.int y :: .int x :: st) := by
  obtain ⟨p, l, e, R, s, m, args, below, meth, c⟩ := X
  obtain ⟨hx, hb, hml, ho, hts, hK, hA, hlk, hfr, hR1, hR2, hlo, hZ⟩ := hX
  intro H locs ls h1 h2 h3
  exact lv_iand hx hb hd (k H locs ls h1 h2 h3)
theorem zg_ior {X : zg_X} {D : va_G} {G : zw_G} {A : Nat → Prop} {Q : State → Prop} {sf ck : Nat} {w : zw_T} {pc : Nat} {lv : List (Option Value)} {st : List Value} {cc : ByteArray} {own : String} {nL fr lo mc : Nat} {x y : Int32} (hX : zg_ok X cc own nL fr lo sf mc D G A) (hd : decode cc pc = .ok (.ior, 1))  (k : zg X D G A Q sf ck w (pc + 1) lv (.int (x ||| y) :: st)) : zg X D G A Q sf ck w pc lv (.int y :: .int x :: st) := by
  obtain ⟨p, l, e, R, s, m, args, below, meth, c⟩ := X
  obtain ⟨hx, hb, hml, ho, hts, hK, hA, hlk, hfr, hR1, hR2, hlo, hZ⟩ := hX
  intro H locs ls h1 h2 h3
  exact lv_ior hx hb hd (k H locs ls h1 h2 h3)
theorem zg_ixor {X : zg_X} {D : va_G} {G : zw_G} {A : Nat → Prop} {Q : State → Prop} {sf ck : Nat} {w : zw_T} {pc : Nat} {lv : List (Option Value)} {st : List Value} {cc : ByteArray} {own : String} {nL fr lo mc : Nat} {x y : Int32} (hX : zg_ok X cc own nL fr lo sf mc D G A) (hd : decode cc pc = .ok (.ixor, 1))  (k : zg X D G A Q sf ck w (pc + 1) lv (.int (x ^^^ y) :: st)) : zg X D G A Q sf ck w pc lv (.int y :: .int x :: st) := by
  obtain ⟨p, l, e, R, s, m, args, below, meth, c⟩ := X
  obtain ⟨hx, hb, hml, ho, hts, hK, hA, hlk, hfr, hR1, hR2, hlo, hZ⟩ := hX
  intro H locs ls h1 h2 h3
  exact lv_ixor hx hb hd (k H locs ls h1 h2 h3)
theorem zg_ishl {X : zg_X} {D : va_G} {G : zw_G} {A : Nat → Prop} {Q : State → Prop} {sf ck : Nat} {w : zw_T} {pc : Nat} {lv : List (Option Value)} {st : List Value} {cc : ByteArray} {own : String} {nL fr lo mc : Nat} {x y : Int32} (hX : zg_ok X cc own nL fr lo sf mc D G A) (hd : decode cc pc = .ok (.ishl, 1))  (k : zg X D G A Q sf ck w (pc + 1) lv (.int (zi_shl x y) :: st)) : zg X D G A Q sf ck w pc lv (.int y :: .int x :: st) := by
  obtain ⟨p, l, e, R, s, m, args, below, meth, c⟩ := X
  obtain ⟨hx, hb, hml, ho, hts, hK, hA, hlk, hfr, hR1, hR2, hlo, hZ⟩ := hX
  intro H locs ls h1 h2 h3
  exact lv_ishl hx hb hd (k H locs ls h1 h2 h3)
theorem zg_ishr {X : zg_X} {D : va_G} {G : zw_G} {A : Nat → Prop} {Q : State → Prop} {sf ck : Nat} {w : zw_T} {pc : Nat} {lv : List (Option Value)} {st : List Value} {cc : ByteArray} {own : String} {nL fr lo mc : Nat} {x y : Int32} (hX : zg_ok X cc own nL fr lo sf mc D G A) (hd : decode cc pc = .ok (.ishr, 1))  (k : zg X D G A Q sf ck w (pc + 1) lv (.int (zi_shr x y) :: st)) : zg X D G A Q sf ck w pc lv (.int y :: .int x :: st) := by
  obtain ⟨p, l, e, R, s, m, args, below, meth, c⟩ := X
  obtain ⟨hx, hb, hml, ho, hts, hK, hA, hlk, hfr, hR1, hR2, hlo, hZ⟩ := hX
  intro H locs ls h1 h2 h3
  exact lv_ishr hx hb hd (k H locs ls h1 h2 h3)
theorem zg_iushr {X : zg_X} {D : va_G} {G : zw_G} {A : Nat → Prop} {Q : State → Prop} {sf ck : Nat} {w : zw_T} {pc : Nat} {lv : List (Option Value)} {st : List Value} {cc : ByteArray} {own : String} {nL fr lo mc : Nat} {x y : Int32} (hX : zg_ok X cc own nL fr lo sf mc D G A) (hd : decode cc pc = .ok (.iushr, 1))  (k : zg X D G A Q sf ck w (pc + 1) lv (.int (zi_ushr x y) :: st)) : zg X D G A Q sf ck w pc lv (.int y :: .int x :: st) := by
  obtain ⟨p, l, e, R, s, m, args, below, meth, c⟩ := X
  obtain ⟨hx, hb, hml, ho, hts, hK, hA, hlk, hfr, hR1, hR2, hlo, hZ⟩ := hX
  intro H locs ls h1 h2 h3
  exact lv_iushr (v := zi_ushr _ _) hx hb hd rfl (k H locs ls h1 h2 h3)
theorem zg_ineg {X : zg_X} {D : va_G} {G : zw_G} {A : Nat → Prop} {Q : State → Prop} {sf ck : Nat} {w : zw_T} {pc : Nat} {lv : List (Option Value)} {st : List Value} {cc : ByteArray} {own : String} {nL fr lo mc : Nat} {x : Int32} (hX : zg_ok X cc own nL fr lo sf mc D G A) (hd : decode cc pc = .ok (.ineg, 1))  (k : zg X D G A Q sf ck w (pc + 1) lv (.int (-x) :: st)) : zg X D G A Q sf ck w pc lv (.int x :: st) := by
  obtain ⟨p, l, e, R, s, m, args, below, meth, c⟩ := X
  obtain ⟨hx, hb, hml, ho, hts, hK, hA, hlk, hfr, hR1, hR2, hlo, hZ⟩ := hX
  intro H locs ls h1 h2 h3
  exact lv_ineg hx hb hd (k H locs ls h1 h2 h3)
theorem zg_idiv {X : zg_X} {D : va_G} {G : zw_G} {A : Nat → Prop} {Q : State → Prop} {sf ck : Nat} {w : zw_T} {pc : Nat} {lv : List (Option Value)} {st : List Value} {cc : ByteArray} {own : String} {nL fr lo mc : Nat} {x y : Int32} (hX : zg_ok X cc own nL fr lo sf mc D G A) (hd : decode cc pc = .ok (.idiv, 1)) (hne : ¬ y = 0) (k : zg X D G A Q sf ck w (pc + 1) lv (.int (x / y) :: st)) : zg X D G A Q sf ck w pc lv (.int y :: .int x :: st) := by
  obtain ⟨p, l, e, R, s, m, args, below, meth, c⟩ := X
  obtain ⟨hx, hb, hml, ho, hts, hK, hA, hlk, hfr, hR1, hR2, hlo, hZ⟩ := hX
  intro H locs ls h1 h2 h3
  exact lv_idiv hx hb hd hne (k H locs ls h1 h2 h3)
theorem zg_irem {X : zg_X} {D : va_G} {G : zw_G} {A : Nat → Prop} {Q : State → Prop} {sf ck : Nat} {w : zw_T} {pc : Nat} {lv : List (Option Value)} {st : List Value} {cc : ByteArray} {own : String} {nL fr lo mc : Nat} {x y : Int32} (hX : zg_ok X cc own nL fr lo sf mc D G A) (hd : decode cc pc = .ok (.irem, 1)) (hne : ¬ y = 0) (k : zg X D G A Q sf ck w (pc + 1) lv (.int (zi_rem x y) :: st)) : zg X D G A Q sf ck w pc lv (.int y :: .int x :: st) := by
  obtain ⟨p, l, e, R, s, m, args, below, meth, c⟩ := X
  obtain ⟨hx, hb, hml, ho, hts, hK, hA, hlk, hfr, hR1, hR2, hlo, hZ⟩ := hX
  intro H locs ls h1 h2 h3
  exact lv_irem hx hb hd hne (k H locs ls h1 h2 h3)
theorem zg_ladd {X : zg_X} {D : va_G} {G : zw_G} {A : Nat → Prop} {Q : State → Prop} {sf ck : Nat} {w : zw_T} {pc : Nat} {lv : List (Option Value)} {st : List Value} {cc : ByteArray} {own : String} {nL fr lo mc : Nat} {x y : Int64} (hX : zg_ok X cc own nL fr lo sf mc D G A) (hd : decode cc pc = .ok (.ladd, 1))  (k : zg X D G A Q sf ck w (pc + 1) lv (.long (x + y) :: st)) : zg X D G A Q sf ck w pc lv (.long y :: .long x :: st) := by
  obtain ⟨p, l, e, R, s, m, args, below, meth, c⟩ := X
  obtain ⟨hx, hb, hml, ho, hts, hK, hA, hlk, hfr, hR1, hR2, hlo, hZ⟩ := hX
  intro H locs ls h1 h2 h3
  exact lv_ladd hx hb hd (k H locs ls h1 h2 h3)
theorem zg_lsub {X : zg_X} {D : va_G} {G : zw_G} {A : Nat → Prop} {Q : State → Prop} {sf ck : Nat} {w : zw_T} {pc : Nat} {lv : List (Option Value)} {st : List Value} {cc : ByteArray} {own : String} {nL fr lo mc : Nat} {x y : Int64} (hX : zg_ok X cc own nL fr lo sf mc D G A) (hd : decode cc pc = .ok (.lsub, 1))  (k : zg X D G A Q sf ck w (pc + 1) lv (.long (x - y) :: st)) : zg X D G A Q sf ck w pc lv (.long y :: .long x :: st) := by
  obtain ⟨p, l, e, R, s, m, args, below, meth, c⟩ := X
  obtain ⟨hx, hb, hml, ho, hts, hK, hA, hlk, hfr, hR1, hR2, hlo, hZ⟩ := hX
  intro H locs ls h1 h2 h3
  exact lv_lsub hx hb hd (k H locs ls h1 h2 h3)
theorem zg_land {X : zg_X} {D : va_G} {G : zw_G} {A : Nat → Prop} {Q : State → Prop} {sf ck : Nat} {w : zw_T} {pc : Nat} {lv : List (Option Value)} {st : List Value} {cc : ByteArray} {own : String} {nL fr lo mc : Nat} {x y : Int64} (hX : zg_ok X cc own nL fr lo sf mc D G A) (hd : decode cc pc = .ok (.land, 1))  (k : zg X D G A Q sf ck w (pc + 1) lv (.long (x &&& y) :: st)) : zg X D G A Q sf ck w pc lv (.long y :: .long x :: st) := by
  obtain ⟨p, l, e, R, s, m, args, below, meth, c⟩ := X
  obtain ⟨hx, hb, hml, ho, hts, hK, hA, hlk, hfr, hR1, hR2, hlo, hZ⟩ := hX
  intro H locs ls h1 h2 h3
  exact lv_land hx hb hd (k H locs ls h1 h2 h3)
theorem zg_lor {X : zg_X} {D : va_G} {G : zw_G} {A : Nat → Prop} {Q : State → Prop} {sf ck : Nat} {w : zw_T} {pc : Nat} {lv : List (Option Value)} {st : List Value} {cc : ByteArray} {own : String} {nL fr lo mc : Nat} {x y : Int64} (hX : zg_ok X cc own nL fr lo sf mc D G A) (hd : decode cc pc = .ok (.lor, 1))  (k : zg X D G A Q sf ck w (pc + 1) lv (.long (x ||| y) :: st)) : zg X D G A Q sf ck w pc lv (.long y :: .long x :: st) := by
  obtain ⟨p, l, e, R, s, m, args, below, meth, c⟩ := X
  obtain ⟨hx, hb, hml, ho, hts, hK, hA, hlk, hfr, hR1, hR2, hlo, hZ⟩ := hX
  intro H locs ls h1 h2 h3
  exact lv_lor hx hb hd (k H locs ls h1 h2 h3)
theorem zg_lxor {X : zg_X} {D : va_G} {G : zw_G} {A : Nat → Prop} {Q : State → Prop} {sf ck : Nat} {w : zw_T} {pc : Nat} {lv : List (Option Value)} {st : List Value} {cc : ByteArray} {own : String} {nL fr lo mc : Nat} {x y : Int64} (hX : zg_ok X cc own nL fr lo sf mc D G A) (hd : decode cc pc = .ok (.lxor, 1))  (k : zg X D G A Q sf ck w (pc + 1) lv (.long (x ^^^ y) :: st)) : zg X D G A Q sf ck w pc lv (.long y :: .long x :: st) := by
  obtain ⟨p, l, e, R, s, m, args, below, meth, c⟩ := X
  obtain ⟨hx, hb, hml, ho, hts, hK, hA, hlk, hfr, hR1, hR2, hlo, hZ⟩ := hX
  intro H locs ls h1 h2 h3
  exact lv_lxor hx hb hd (k H locs ls h1 h2 h3)
theorem zg_lshl {X : zg_X} {D : va_G} {G : zw_G} {A : Nat → Prop} {Q : State → Prop} {sf ck : Nat} {w : zw_T} {pc : Nat} {lv : List (Option Value)} {st : List Value} {cc : ByteArray} {own : String} {nL fr lo mc : Nat} {x : Int64} {y : Int32} (hX : zg_ok X cc own nL fr lo sf mc D G A) (hd : decode cc pc = .ok (.lshl, 1))  (k : zg X D G A Q sf ck w (pc + 1) lv (.long (zi_lshl x y) :: st)) : zg X D G A Q sf ck w pc lv (.int y :: .long x :: st) := by
  obtain ⟨p, l, e, R, s, m, args, below, meth, c⟩ := X
  obtain ⟨hx, hb, hml, ho, hts, hK, hA, hlk, hfr, hR1, hR2, hlo, hZ⟩ := hX
  intro H locs ls h1 h2 h3
  exact lv_lshl (v := zi_lshl _ _) hx hb hd rfl (k H locs ls h1 h2 h3)
theorem zg_lshr {X : zg_X} {D : va_G} {G : zw_G} {A : Nat → Prop} {Q : State → Prop} {sf ck : Nat} {w : zw_T} {pc : Nat} {lv : List (Option Value)} {st : List Value} {cc : ByteArray} {own : String} {nL fr lo mc : Nat} {x : Int64} {y : Int32} (hX : zg_ok X cc own nL fr lo sf mc D G A) (hd : decode cc pc = .ok (.lshr, 1))  (k : zg X D G A Q sf ck w (pc + 1) lv (.long (zi_lshr x y) :: st)) : zg X D G A Q sf ck w pc lv (.int y :: .long x :: st) := by
  obtain ⟨p, l, e, R, s, m, args, below, meth, c⟩ := X
  obtain ⟨hx, hb, hml, ho, hts, hK, hA, hlk, hfr, hR1, hR2, hlo, hZ⟩ := hX
  intro H locs ls h1 h2 h3
  exact lv_lshr (v := zi_lshr _ _) hx hb hd rfl (k H locs ls h1 h2 h3)
theorem zg_lushr {X : zg_X} {D : va_G} {G : zw_G} {A : Nat → Prop} {Q : State → Prop} {sf ck : Nat} {w : zw_T} {pc : Nat} {lv : List (Option Value)} {st : List Value} {cc : ByteArray} {own : String} {nL fr lo mc : Nat} {x : Int64} {y : Int32} (hX : zg_ok X cc own nL fr lo sf mc D G A) (hd : decode cc pc = .ok (.lushr, 1))  (k : zg X D G A Q sf ck w (pc + 1) lv (.long (zi_lushr x y) :: st)) : zg X D G A Q sf ck w pc lv (.int y :: .long x :: st) := by
  obtain ⟨p, l, e, R, s, m, args, below, meth, c⟩ := X
  obtain ⟨hx, hb, hml, ho, hts, hK, hA, hlk, hfr, hR1, hR2, hlo, hZ⟩ := hX
  intro H locs ls h1 h2 h3
  exact lv_lushr (v := zi_lushr _ _) hx hb hd rfl (k H locs ls h1 h2 h3)
theorem zg_i2l {X : zg_X} {D : va_G} {G : zw_G} {A : Nat → Prop} {Q : State → Prop} {sf ck : Nat} {w : zw_T} {pc : Nat} {lv : List (Option Value)} {st : List Value} {cc : ByteArray} {own : String} {nL fr lo mc : Nat} {x : Int32} (hX : zg_ok X cc own nL fr lo sf mc D G A) (hd : decode cc pc = .ok (.i2l, 1))  (k : zg X D G A Q sf ck w (pc + 1) lv (.long x.toInt64 :: st)) : zg X D G A Q sf ck w pc lv (.int x :: st) := by
  obtain ⟨p, l, e, R, s, m, args, below, meth, c⟩ := X
  obtain ⟨hx, hb, hml, ho, hts, hK, hA, hlk, hfr, hR1, hR2, hlo, hZ⟩ := hX
  intro H locs ls h1 h2 h3
  exact lv_i2l hx hb hd rfl (k H locs ls h1 h2 h3)
theorem zg_l2i {X : zg_X} {D : va_G} {G : zw_G} {A : Nat → Prop} {Q : State → Prop} {sf ck : Nat} {w : zw_T} {pc : Nat} {lv : List (Option Value)} {st : List Value} {cc : ByteArray} {own : String} {nL fr lo mc : Nat} {x : Int64} (hX : zg_ok X cc own nL fr lo sf mc D G A) (hd : decode cc pc = .ok (.l2i, 1))  (k : zg X D G A Q sf ck w (pc + 1) lv (.int x.toInt32 :: st)) : zg X D G A Q sf ck w pc lv (.long x :: st) := by
  obtain ⟨p, l, e, R, s, m, args, below, meth, c⟩ := X
  obtain ⟨hx, hb, hml, ho, hts, hK, hA, hlk, hfr, hR1, hR2, hlo, hZ⟩ := hX
  intro H locs ls h1 h2 h3
  exact lv_l2i hx hb hd rfl (k H locs ls h1 h2 h3)
theorem zg_lcmp {X : zg_X} {D : va_G} {G : zw_G} {A : Nat → Prop} {Q : State → Prop} {sf ck : Nat} {w : zw_T} {pc : Nat} {lv : List (Option Value)} {st : List Value} {cc : ByteArray} {own : String} {nL fr lo mc : Nat} {x y : Int64} (hX : zg_ok X cc own nL fr lo sf mc D G A) (hd : decode cc pc = .ok (.lcmp, 1))  (k : zg X D G A Q sf ck w (pc + 1) lv (.int (lg_cmp x y) :: st)) : zg X D G A Q sf ck w pc lv (.long y :: .long x :: st) := by
  obtain ⟨p, l, e, R, s, m, args, below, meth, c⟩ := X
  obtain ⟨hx, hb, hml, ho, hts, hK, hA, hlk, hfr, hR1, hR2, hlo, hZ⟩ := hX
  intro H locs ls h1 h2 h3
  exact W.lcmp hx hb hd (k H locs ls h1 h2 h3)
theorem zg_dup {X : zg_X} {D : va_G} {G : zw_G} {A : Nat → Prop} {Q : State → Prop} {sf ck : Nat} {w : zw_T} {pc : Nat} {lv : List (Option Value)} {st : List Value} {cc : ByteArray} {own : String} {nL fr lo mc : Nat} {v : Value} (hX : zg_ok X cc own nL fr lo sf mc D G A) (hd : decode cc pc = .ok (.dup, 1)) (hv : v.category = 1) (k : zg X D G A Q sf ck w (pc + 1) lv (v :: v :: st)) : zg X D G A Q sf ck w pc lv (v :: st) := by
  obtain ⟨p, l, e, R, s, m, args, below, meth, c⟩ := X
  obtain ⟨hx, hb, hml, ho, hts, hK, hA, hlk, hfr, hR1, hR2, hlo, hZ⟩ := hX
  intro H locs ls h1 h2 h3
  exact lv_dup hx hb hd hv (k H locs ls h1 h2 h3)
theorem zg_pop {X : zg_X} {D : va_G} {G : zw_G} {A : Nat → Prop} {Q : State → Prop} {sf ck : Nat} {w : zw_T} {pc : Nat} {lv : List (Option Value)} {st : List Value} {cc : ByteArray} {own : String} {nL fr lo mc : Nat} {v : Value} (hX : zg_ok X cc own nL fr lo sf mc D G A) (hd : decode cc pc = .ok (.pop, 1)) (hv : v.category = 1) (k : zg X D G A Q sf ck w (pc + 1) lv st) : zg X D G A Q sf ck w pc lv (v :: st) := by
  obtain ⟨p, l, e, R, s, m, args, below, meth, c⟩ := X
  obtain ⟨hx, hb, hml, ho, hts, hK, hA, hlk, hfr, hR1, hR2, hlo, hZ⟩ := hX
  intro H locs ls h1 h2 h3
  exact lv_pop hx hb hd hv (k H locs ls h1 h2 h3)
theorem zg_dup_x1 {X : zg_X} {D : va_G} {G : zw_G} {A : Nat → Prop} {Q : State → Prop} {sf ck : Nat} {w : zw_T} {pc : Nat} {lv : List (Option Value)} {st : List Value} {cc : ByteArray} {own : String} {nL fr lo mc : Nat} {v u : Value} (hX : zg_ok X cc own nL fr lo sf mc D G A) (hd : decode cc pc = .ok (.dup_x1, 1)) (hv : v.category = 1) (hu : u.category = 1) (k : zg X D G A Q sf ck w (pc + 1) lv (v :: u :: v :: st)) : zg X D G A Q sf ck w pc lv (v :: u :: st) := by
  obtain ⟨p, l, e, R, s, m, args, below, meth, c⟩ := X
  obtain ⟨hx, hb, hml, ho, hts, hK, hA, hlk, hfr, hR1, hR2, hlo, hZ⟩ := hX
  intro H locs ls h1 h2 h3
  exact lv_dup_x1 hx hb hd hv hu (k H locs ls h1 h2 h3)
theorem zg_dup_x2 {X : zg_X} {D : va_G} {G : zw_G} {A : Nat → Prop} {Q : State → Prop} {sf ck : Nat} {w : zw_T} {pc : Nat} {lv : List (Option Value)} {st : List Value} {cc : ByteArray} {own : String} {nL fr lo mc : Nat} {v u t : Value} (hX : zg_ok X cc own nL fr lo sf mc D G A) (hd : decode cc pc = .ok (.dup_x2, 1)) (hv : v.category = 1) (hu : u.category = 1) (ht : t.category = 1) (k : zg X D G A Q sf ck w (pc + 1) lv (v :: u :: t :: v :: st)) : zg X D G A Q sf ck w pc lv (v :: u :: t :: st) := by
  obtain ⟨p, l, e, R, s, m, args, below, meth, c⟩ := X
  obtain ⟨hx, hb, hml, ho, hts, hK, hA, hlk, hfr, hR1, hR2, hlo, hZ⟩ := hX
  intro H locs ls h1 h2 h3
  exact lv_dup_x2 hx hb hd hv hu ht (k H locs ls h1 h2 h3)
theorem zg_dup2 {X : zg_X} {D : va_G} {G : zw_G} {A : Nat → Prop} {Q : State → Prop} {sf ck : Nat} {w : zw_T} {pc : Nat} {lv : List (Option Value)} {st : List Value} {cc : ByteArray} {own : String} {nL fr lo mc : Nat} {v u : Value} (hX : zg_ok X cc own nL fr lo sf mc D G A) (hd : decode cc pc = .ok (.dup2, 1)) (hv : v.category = 1) (hu : u.category = 1) (k : zg X D G A Q sf ck w (pc + 1) lv (v :: u :: v :: u :: st)) : zg X D G A Q sf ck w pc lv (v :: u :: st) := by
  obtain ⟨p, l, e, R, s, m, args, below, meth, c⟩ := X
  obtain ⟨hx, hb, hml, ho, hts, hK, hA, hlk, hfr, hR1, hR2, hlo, hZ⟩ := hX
  intro H locs ls h1 h2 h3
  exact lv_dup2_11 hx hb hd hv hu (k H locs ls h1 h2 h3)
theorem zg_ldc {X : zg_X} {D : va_G} {G : zw_G} {A : Nat → Prop} {Q : State → Prop} {sf ck : Nat} {w : zw_T} {pc : Nat} {lv : List (Option Value)} {st : List Value} {cc : ByteArray} {own : String} {nL fr lo mc : Nat} {idx : Nat} (hX : zg_ok X cc own nL fr lo sf mc D G A) (hd : decode cc pc = .ok (.ldc idx, 2)) (v : Int32) (hc : Jvm.Cond.constant own idx v ∈ zT) (k : zg X D G A Q sf ck w (pc + 2) lv (.int v :: st)) : zg X D G A Q sf ck w pc lv st := by
  obtain ⟨p, l, e, R, s, m, args, below, meth, c⟩ := X
  obtain ⟨hx, hb, hml, ho, hts, hK, hA, hlk, hfr, hR1, hR2, hlo, hZ⟩ := hX
  intro H locs ls h1 h2 h3
  exact lv_ldc hx hb ho (hts _ hc) hd (k H locs ls h1 h2 h3)
theorem zg_ldcw {X : zg_X} {D : va_G} {G : zw_G} {A : Nat → Prop} {Q : State → Prop} {sf ck : Nat} {w : zw_T} {pc : Nat} {lv : List (Option Value)} {st : List Value} {cc : ByteArray} {own : String} {nL fr lo mc : Nat} {idx : Nat} (hX : zg_ok X cc own nL fr lo sf mc D G A) (hd : decode cc pc = .ok (.ldc_w idx, 3)) (v : Int32) (hc : Jvm.Cond.constant own idx v ∈ zT) (k : zg X D G A Q sf ck w (pc + 3) lv (.int v :: st)) : zg X D G A Q sf ck w pc lv st := by
  obtain ⟨p, l, e, R, s, m, args, below, meth, c⟩ := X
  obtain ⟨hx, hb, hml, ho, hts, hK, hA, hlk, hfr, hR1, hR2, hlo, hZ⟩ := hX
  intro H locs ls h1 h2 h3
  exact lv_ldcw hx hb ho (hts _ hc) hd (k H locs ls h1 h2 h3)
theorem zg_ldc2 {X : zg_X} {D : va_G} {G : zw_G} {A : Nat → Prop} {Q : State → Prop} {sf ck : Nat} {w : zw_T} {pc : Nat} {lv : List (Option Value)} {st : List Value} {cc : ByteArray} {own : String} {nL fr lo mc : Nat} {idx : Nat} (hX : zg_ok X cc own nL fr lo sf mc D G A) (hd : decode cc pc = .ok (.ldc2_w idx, 3)) (v : Int64) (hc : Jvm.Cond.constantLong own idx v ∈ zT) (k : zg X D G A Q sf ck w (pc + 3) lv (.long v :: st)) : zg X D G A Q sf ck w pc lv st := by
  obtain ⟨p, l, e, R, s, m, args, below, meth, c⟩ := X
  obtain ⟨hx, hb, hml, ho, hts, hK, hA, hlk, hfr, hR1, hR2, hlo, hZ⟩ := hX
  intro H locs ls h1 h2 h3
  exact lv_ldc2 hx hb ho (hts _ hc) hd (k H locs ls h1 h2 h3)
theorem zg_iload_n {X : zg_X} {D : va_G} {G : zw_G} {A : Nat → Prop} {Q : State → Prop} {sf ck : Nat} {w : zw_T} {pc : Nat} {lv : List (Option Value)} {st : List Value} {cc : ByteArray} {own : String} {nL fr lo mc : Nat} {k0 : Fin 4} {x : Int32} (hX : zg_ok X cc own nL fr lo sf mc D G A) (hd : decode cc pc = .ok (.iload_n k0, 1)) (hl : lv[(k0 : Nat)]? = some (some (.int x))) (k : zg X D G A Q sf ck w (pc + 1) lv (.int x :: st)) : zg X D G A Q sf ck w pc lv st := by
  obtain ⟨p, l, e, R, s, m, args, below, meth, c⟩ := X
  obtain ⟨hx, hb, hml, ho, hts, hK, hA, hlk, hfr, hR1, hR2, hlo, hZ⟩ := hX
  intro H locs ls h1 h2 h3
  exact lv_iload_n hx hb hd rfl (h1.2.2 _ _ hl) (k H locs ls h1 h2 h3)
theorem zg_iload {X : zg_X} {D : va_G} {G : zw_G} {A : Nat → Prop} {Q : State → Prop} {sf ck : Nat} {w : zw_T} {pc : Nat} {lv : List (Option Value)} {st : List Value} {cc : ByteArray} {own : String} {nL fr lo mc : Nat} {i0 : Nat} {x : Int32} (hX : zg_ok X cc own nL fr lo sf mc D G A) (hd : decode cc pc = .ok (.iload i0, 2)) (hl : lv[i0]? = some (some (.int x))) (k : zg X D G A Q sf ck w (pc + 2) lv (.int x :: st)) : zg X D G A Q sf ck w pc lv st := by
  obtain ⟨p, l, e, R, s, m, args, below, meth, c⟩ := X
  obtain ⟨hx, hb, hml, ho, hts, hK, hA, hlk, hfr, hR1, hR2, hlo, hZ⟩ := hX
  intro H locs ls h1 h2 h3
  exact lv_iload hx hb hd (h1.2.2 _ _ hl) (k H locs ls h1 h2 h3)
theorem zg_lload_n {X : zg_X} {D : va_G} {G : zw_G} {A : Nat → Prop} {Q : State → Prop} {sf ck : Nat} {w : zw_T} {pc : Nat} {lv : List (Option Value)} {st : List Value} {cc : ByteArray} {own : String} {nL fr lo mc : Nat} {k0 : Fin 4} {x : Int64} (hX : zg_ok X cc own nL fr lo sf mc D G A) (hd : decode cc pc = .ok (.lload_n k0, 1)) (hl : lv[(k0 : Nat)]? = some (some (.long x))) (k : zg X D G A Q sf ck w (pc + 1) lv (.long x :: st)) : zg X D G A Q sf ck w pc lv st := by
  obtain ⟨p, l, e, R, s, m, args, below, meth, c⟩ := X
  obtain ⟨hx, hb, hml, ho, hts, hK, hA, hlk, hfr, hR1, hR2, hlo, hZ⟩ := hX
  intro H locs ls h1 h2 h3
  exact lv_lload_n hx hb hd rfl (h1.2.2 _ _ hl) (k H locs ls h1 h2 h3)
theorem zg_lload {X : zg_X} {D : va_G} {G : zw_G} {A : Nat → Prop} {Q : State → Prop} {sf ck : Nat} {w : zw_T} {pc : Nat} {lv : List (Option Value)} {st : List Value} {cc : ByteArray} {own : String} {nL fr lo mc : Nat} {i0 : Nat} {x : Int64} (hX : zg_ok X cc own nL fr lo sf mc D G A) (hd : decode cc pc = .ok (.lload i0, 2)) (hl : lv[i0]? = some (some (.long x))) (k : zg X D G A Q sf ck w (pc + 2) lv (.long x :: st)) : zg X D G A Q sf ck w pc lv st := by
  obtain ⟨p, l, e, R, s, m, args, below, meth, c⟩ := X
  obtain ⟨hx, hb, hml, ho, hts, hK, hA, hlk, hfr, hR1, hR2, hlo, hZ⟩ := hX
  intro H locs ls h1 h2 h3
  exact lv_lload hx hb hd (h1.2.2 _ _ hl) (k H locs ls h1 h2 h3)
theorem zg_aload_n {X : zg_X} {D : va_G} {G : zw_G} {A : Nat → Prop} {Q : State → Prop} {sf ck : Nat} {w : zw_T} {pc : Nat} {lv : List (Option Value)} {st : List Value} {cc : ByteArray} {own : String} {nL fr lo mc : Nat} {k0 : Fin 4} {x : Option Nat} (hX : zg_ok X cc own nL fr lo sf mc D G A) (hd : decode cc pc = .ok (.aload_n k0, 1)) (hl : lv[(k0 : Nat)]? = some (some (va_rf x))) (k : zg X D G A Q sf ck w (pc + 1) lv (va_rf x :: st)) : zg X D G A Q sf ck w pc lv st := by
  obtain ⟨p, l, e, R, s, m, args, below, meth, c⟩ := X
  obtain ⟨hx, hb, hml, ho, hts, hK, hA, hlk, hfr, hR1, hR2, hlo, hZ⟩ := hX
  intro H locs ls h1 h2 h3
  cases x with
  | none => exact lv_aload_nN hx hb hd rfl (h1.2.2 _ _ hl) (k H locs ls h1 h2 h3)
  | some x => exact lv_aload_n hx hb hd rfl (h1.2.2 _ _ hl) (k H locs ls h1 h2 h3)
theorem zg_aload {X : zg_X} {D : va_G} {G : zw_G} {A : Nat → Prop} {Q : State → Prop} {sf ck : Nat} {w : zw_T} {pc : Nat} {lv : List (Option Value)} {st : List Value} {cc : ByteArray} {own : String} {nL fr lo mc : Nat} {i0 : Nat} {x : Option Nat} (hX : zg_ok X cc own nL fr lo sf mc D G A) (hd : decode cc pc = .ok (.aload i0, 2)) (hl : lv[i0]? = some (some (va_rf x))) (k : zg X D G A Q sf ck w (pc + 2) lv (va_rf x :: st)) : zg X D G A Q sf ck w pc lv st := by
  obtain ⟨p, l, e, R, s, m, args, below, meth, c⟩ := X
  obtain ⟨hx, hb, hml, ho, hts, hK, hA, hlk, hfr, hR1, hR2, hlo, hZ⟩ := hX
  intro H locs ls h1 h2 h3
  cases x with
  | none => exact lv_aloadN hx hb hd (h1.2.2 _ _ hl) (k H locs ls h1 h2 h3)
  | some x => exact lv_aload hx hb hd (h1.2.2 _ _ hl) (k H locs ls h1 h2 h3)
theorem zg_istore_n {X : zg_X} {D : va_G} {G : zw_G} {A : Nat → Prop} {Q : State → Prop} {sf ck : Nat} {w : zw_T} {pc : Nat} {lv : List (Option Value)} {st : List Value} {cc : ByteArray} {own : String} {nL fr lo mc : Nat} {k0 : Fin 4} {x : Int32} {ρ : Type} {K : Int32 → Option ρ} {r : ρ} (hX : zg_ok X cc own nL fr lo sf mc D G A) (hd : decode cc pc = .ok (.istore_n k0, 1))  (hi : (k0 : Nat) < lv.length) (hf : zl_free lv (k0 : Nat) = true) (h : zf_let x K = some r) (k : ∀ y, K y = some r → zg X D G A Q sf ck w (pc + 1) (lv.set (k0 : Nat) (some (.int y))) st) : zg X D G A Q sf ck w pc lv (.int x :: st) := by
  obtain ⟨p, l, e, R, s, m, args, below, meth, c⟩ := X
  obtain ⟨hx, hb, hml, ho, hts, hK, hA, hlk, hfr, hR1, hR2, hlo, hZ⟩ := hX
  intro H locs ls h1 h2 h3
  exact lv_istore_n hx hb hd rfl (zl_to h1) hi rfl (fun ls' q => k x h H locs ls' (zl_of1 q hi hf) h2 h3)
theorem zg_istore {X : zg_X} {D : va_G} {G : zw_G} {A : Nat → Prop} {Q : State → Prop} {sf ck : Nat} {w : zw_T} {pc : Nat} {lv : List (Option Value)} {st : List Value} {cc : ByteArray} {own : String} {nL fr lo mc : Nat} {i0 : Nat} {x : Int32} {ρ : Type} {K : Int32 → Option ρ} {r : ρ} (hX : zg_ok X cc own nL fr lo sf mc D G A) (hd : decode cc pc = .ok (.istore i0, 2))  (hi : i0 < lv.length) (hf : zl_free lv i0 = true) (h : zf_let x K = some r) (k : ∀ y, K y = some r → zg X D G A Q sf ck w (pc + 2) (lv.set i0 (some (.int y))) st) : zg X D G A Q sf ck w pc lv (.int x :: st) := by
  obtain ⟨p, l, e, R, s, m, args, below, meth, c⟩ := X
  obtain ⟨hx, hb, hml, ho, hts, hK, hA, hlk, hfr, hR1, hR2, hlo, hZ⟩ := hX
  intro H locs ls h1 h2 h3
  exact lv_istore hx hb hd (zl_to h1) hi rfl (fun ls' q => k x h H locs ls' (zl_of1 q hi hf) h2 h3)
theorem zg_lstore_n {X : zg_X} {D : va_G} {G : zw_G} {A : Nat → Prop} {Q : State → Prop} {sf ck : Nat} {w : zw_T} {pc : Nat} {lv : List (Option Value)} {st : List Value} {cc : ByteArray} {own : String} {nL fr lo mc : Nat} {k0 : Fin 4} {x : Int64} {ρ : Type} {K : Int64 → Option ρ} {r : ρ} (hX : zg_ok X cc own nL fr lo sf mc D G A) (hd : decode cc pc = .ok (.lstore_n k0, 1))  (hi : (k0 : Nat) + 1 < lv.length) (hf : zl_free lv (k0 : Nat) = true) (h : zf_let x K = some r) (k : ∀ y, K y = some r → zg X D G A Q sf ck w (pc + 1) ((lv.set (k0 : Nat) (some (.long y))).set ((k0 : Nat) + 1) none) st) : zg X D G A Q sf ck w pc lv (.long x :: st) := by
  obtain ⟨p, l, e, R, s, m, args, below, meth, c⟩ := X
  obtain ⟨hx, hb, hml, ho, hts, hK, hA, hlk, hfr, hR1, hR2, hlo, hZ⟩ := hX
  intro H locs ls h1 h2 h3
  exact lv_lstore_n hx hb hd rfl (zl_to h1) hi rfl (fun ls' q => k x h H locs ls' (zl_of2 q hi hf) h2 h3)
theorem zg_lstore {X : zg_X} {D : va_G} {G : zw_G} {A : Nat → Prop} {Q : State → Prop} {sf ck : Nat} {w : zw_T} {pc : Nat} {lv : List (Option Value)} {st : List Value} {cc : ByteArray} {own : String} {nL fr lo mc : Nat} {i0 : Nat} {x : Int64} {ρ : Type} {K : Int64 → Option ρ} {r : ρ} (hX : zg_ok X cc own nL fr lo sf mc D G A) (hd : decode cc pc = .ok (.lstore i0, 2))  (hi : i0 + 1 < lv.length) (hf : zl_free lv i0 = true) (h : zf_let x K = some r) (k : ∀ y, K y = some r → zg X D G A Q sf ck w (pc + 2) ((lv.set i0 (some (.long y))).set (i0 + 1) none) st) : zg X D G A Q sf ck w pc lv (.long x :: st) := by
  obtain ⟨p, l, e, R, s, m, args, below, meth, c⟩ := X
  obtain ⟨hx, hb, hml, ho, hts, hK, hA, hlk, hfr, hR1, hR2, hlo, hZ⟩ := hX
  intro H locs ls h1 h2 h3
  exact lv_lstore hx hb hd (zl_to h1) hi rfl (fun ls' q => k x h H locs ls' (zl_of2 q hi hf) h2 h3)
theorem zg_astore_n {X : zg_X} {D : va_G} {G : zw_G} {A : Nat → Prop} {Q : State → Prop} {sf ck : Nat} {w : zw_T} {pc : Nat} {lv : List (Option Value)} {st : List Value} {cc : ByteArray} {own : String} {nL fr lo mc : Nat} {k0 : Fin 4} {x : Option Nat} {ρ : Type} {K : Option Nat → Option ρ} {r : ρ} (hX : zg_ok X cc own nL fr lo sf mc D G A) (hd : decode cc pc = .ok (.astore_n k0, 1))  (hi : (k0 : Nat) < lv.length) (hf : zl_free lv (k0 : Nat) = true) (h : zf_let x K = some r) (k : ∀ y, K y = some r → zg X D G A Q sf ck w (pc + 1) (lv.set (k0 : Nat) (some (va_rf y))) st) : zg X D G A Q sf ck w pc lv (va_rf x :: st) := by
  obtain ⟨p, l, e, R, s, m, args, below, meth, c⟩ := X
  obtain ⟨hx, hb, hml, ho, hts, hK, hA, hlk, hfr, hR1, hR2, hlo, hZ⟩ := hX
  intro H locs ls h1 h2 h3
  cases x with
  | none => exact lv_astore_nN hx hb hd rfl (zl_to h1) hi rfl (fun ls' q => k none h H locs ls' (zl_of1 q hi hf) h2 h3)
  | some x => exact lv_astore_n hx hb hd rfl (zl_to h1) hi rfl (fun ls' q => k (some x) h H locs ls' (zl_of1 q hi hf) h2 h3)
theorem zg_astore {X : zg_X} {D : va_G} {G : zw_G} {A : Nat → Prop} {Q : State → Prop} {sf ck : Nat} {w : zw_T} {pc : Nat} {lv : List (Option Value)} {st : List Value} {cc : ByteArray} {own : String} {nL fr lo mc : Nat} {i0 : Nat} {x : Option Nat} {ρ : Type} {K : Option Nat → Option ρ} {r : ρ} (hX : zg_ok X cc own nL fr lo sf mc D G A) (hd : decode cc pc = .ok (.astore i0, 2))  (hi : i0 < lv.length) (hf : zl_free lv i0 = true) (h : zf_let x K = some r) (k : ∀ y, K y = some r → zg X D G A Q sf ck w (pc + 2) (lv.set i0 (some (va_rf y))) st) : zg X D G A Q sf ck w pc lv (va_rf x :: st) := by
  obtain ⟨p, l, e, R, s, m, args, below, meth, c⟩ := X
  obtain ⟨hx, hb, hml, ho, hts, hK, hA, hlk, hfr, hR1, hR2, hlo, hZ⟩ := hX
  intro H locs ls h1 h2 h3
  cases x with
  | none => exact lv_astoreN hx hb hd (zl_to h1) hi rfl (fun ls' q => k none h H locs ls' (zl_of1 q hi hf) h2 h3)
  | some x => exact lv_astore hx hb hd (zl_to h1) hi rfl (fun ls' q => k (some x) h H locs ls' (zl_of1 q hi hf) h2 h3)
theorem zg_iinc {X : zg_X} {D : va_G} {G : zw_G} {A : Nat → Prop} {Q : State → Prop} {sf ck : Nat} {w : zw_T} {pc : Nat} {lv : List (Option Value)} {st : List Value} {cc : ByteArray} {own : String} {nL fr lo mc : Nat} {i0 : Nat} {n : Int} {x : Int32} {ρ : Type} {K : Int32 → Option ρ} {r : ρ} (hX : zg_ok X cc own nL fr lo sf mc D G A) (hd : decode cc pc = .ok (.iinc i0 n, 3)) (v : Int32) (hl : lv[i0]? = some (some (.int x))) (hv : Int32.ofInt n = v) (hi : i0 < lv.length) (hf : zl_free lv i0 = true) (h : zf_let (x + v) K = some r) (k : ∀ y, K y = some r → zg X D G A Q sf ck w (pc + 3) (lv.set i0 (some (.int y))) st) : zg X D G A Q sf ck w pc lv st := by
  obtain ⟨p, l, e, R, s, m, args, below, meth, c⟩ := X
  obtain ⟨hx, hb, hml, ho, hts, hK, hA, hlk, hfr, hR1, hR2, hlo, hZ⟩ := hX
  intro H locs ls h1 h2 h3
  subst hv
  obtain ⟨j, hj⟩ := List.getElem?_of_mem (zl_mem.mpr hl)
  exact lv_iinc hx hb hd (zl_to h1) hj rfl hi rfl (fun ls' q => k _ h H locs ls' (zl_of1 q hi hf) h2 h3)
theorem zg_if_eq {X : zg_X} {D : va_G} {G : zw_G} {A : Nat → Prop} {Q : State → Prop} {sf ck : Nat} {w : zw_T} {pc : Nat} {lv : List (Option Value)} {st : List Value} {cc : ByteArray} {own : String} {nL fr lo mc : Nat} {x : Int32} {off : Int} {tgt : Nat} {ρ : Type} {ra rb : Option ρ} {r : ρ} (hX : zg_ok X cc own nL fr lo sf mc D G A) (hd : decode cc pc = .ok (.ifCond .eq off, 3))  (ht : (pc : Int) + off = (tgt : Int)) (h : (if x = 0 then ra else rb) = some r) (k1 : ra = some r → zg X D G A Q sf ck w tgt lv st) (k2 : rb = some r → zg X D G A Q sf ck w (pc + 3) lv st) : zg X D G A Q sf ck w pc lv (.int x :: st) := by
  obtain ⟨p, l, e, R, s, m, args, below, meth, c⟩ := X
  obtain ⟨hx, hb, hml, ho, hts, hK, hA, hlk, hfr, hR1, hR2, hlo, hZ⟩ := hX
  intro H locs ls h1 h2 h3
  by_cases hq : x = 0
  · rw [if_pos hq] at h
    exact lv_if_eq hx hb hd ht (fun _ => k1 h H locs ls h1 h2 h3) (fun z => absurd hq z)
  · rw [if_neg hq] at h
    exact lv_if_eq hx hb hd ht (fun z => absurd z hq) (fun _ => k2 h H locs ls h1 h2 h3)
theorem zg_icmp_eq {X : zg_X} {D : va_G} {G : zw_G} {A : Nat → Prop} {Q : State → Prop} {sf ck : Nat} {w : zw_T} {pc : Nat} {lv : List (Option Value)} {st : List Value} {cc : ByteArray} {own : String} {nL fr lo mc : Nat} {x y : Int32} {off : Int} {tgt : Nat} {ρ : Type} {ra rb : Option ρ} {r : ρ} (hX : zg_ok X cc own nL fr lo sf mc D G A) (hd : decode cc pc = .ok (.if_icmp .eq off, 3))  (ht : (pc : Int) + off = (tgt : Int)) (h : (if x = y then ra else rb) = some r) (k1 : ra = some r → zg X D G A Q sf ck w tgt lv st) (k2 : rb = some r → zg X D G A Q sf ck w (pc + 3) lv st) : zg X D G A Q sf ck w pc lv (.int y :: .int x :: st) := by
  obtain ⟨p, l, e, R, s, m, args, below, meth, c⟩ := X
  obtain ⟨hx, hb, hml, ho, hts, hK, hA, hlk, hfr, hR1, hR2, hlo, hZ⟩ := hX
  intro H locs ls h1 h2 h3
  by_cases hq : x = y
  · rw [if_pos hq] at h
    exact lv_icmp_eq hx hb hd ht (fun _ => k1 h H locs ls h1 h2 h3) (fun z => absurd hq z)
  · rw [if_neg hq] at h
    exact lv_icmp_eq hx hb hd ht (fun z => absurd z hq) (fun _ => k2 h H locs ls h1 h2 h3)
theorem zg_if_ne {X : zg_X} {D : va_G} {G : zw_G} {A : Nat → Prop} {Q : State → Prop} {sf ck : Nat} {w : zw_T} {pc : Nat} {lv : List (Option Value)} {st : List Value} {cc : ByteArray} {own : String} {nL fr lo mc : Nat} {x : Int32} {off : Int} {tgt : Nat} {ρ : Type} {ra rb : Option ρ} {r : ρ} (hX : zg_ok X cc own nL fr lo sf mc D G A) (hd : decode cc pc = .ok (.ifCond .ne off, 3))  (ht : (pc : Int) + off = (tgt : Int)) (h : (if x = 0 then ra else rb) = some r) (k1 : ra = some r → zg X D G A Q sf ck w (pc + 3) lv st) (k2 : rb = some r → zg X D G A Q sf ck w tgt lv st) : zg X D G A Q sf ck w pc lv (.int x :: st) := by
  obtain ⟨p, l, e, R, s, m, args, below, meth, c⟩ := X
  obtain ⟨hx, hb, hml, ho, hts, hK, hA, hlk, hfr, hR1, hR2, hlo, hZ⟩ := hX
  intro H locs ls h1 h2 h3
  by_cases hq : x = 0
  · rw [if_pos hq] at h
    exact lv_if_ne hx hb hd ht (fun z => absurd hq z) (fun _ => k1 h H locs ls h1 h2 h3)
  · rw [if_neg hq] at h
    exact lv_if_ne hx hb hd ht (fun _ => k2 h H locs ls h1 h2 h3) (fun z => absurd z hq)
theorem zg_icmp_ne {X : zg_X} {D : va_G} {G : zw_G} {A : Nat → Prop} {Q : State → Prop} {sf ck : Nat} {w : zw_T} {pc : Nat} {lv : List (Option Value)} {st : List Value} {cc : ByteArray} {own : String} {nL fr lo mc : Nat} {x y : Int32} {off : Int} {tgt : Nat} {ρ : Type} {ra rb : Option ρ} {r : ρ} (hX : zg_ok X cc own nL fr lo sf mc D G A) (hd : decode cc pc = .ok (.if_icmp .ne off, 3))  (ht : (pc : Int) + off = (tgt : Int)) (h : (if x = y then ra else rb) = some r) (k1 : ra = some r → zg X D G A Q sf ck w (pc + 3) lv st) (k2 : rb = some r → zg X D G A Q sf ck w tgt lv st) : zg X D G A Q sf ck w pc lv (.int y :: .int x :: st) := by
  obtain ⟨p, l, e, R, s, m, args, below, meth, c⟩ := X
  obtain ⟨hx, hb, hml, ho, hts, hK, hA, hlk, hfr, hR1, hR2, hlo, hZ⟩ := hX
  intro H locs ls h1 h2 h3
  by_cases hq : x = y
  · rw [if_pos hq] at h
    exact lv_icmp_ne hx hb hd ht (fun z => absurd hq z) (fun _ => k1 h H locs ls h1 h2 h3)
  · rw [if_neg hq] at h
    exact lv_icmp_ne hx hb hd ht (fun _ => k2 h H locs ls h1 h2 h3) (fun z => absurd z hq)
theorem zg_if_lt {X : zg_X} {D : va_G} {G : zw_G} {A : Nat → Prop} {Q : State → Prop} {sf ck : Nat} {w : zw_T} {pc : Nat} {lv : List (Option Value)} {st : List Value} {cc : ByteArray} {own : String} {nL fr lo mc : Nat} {x : Int32} {off : Int} {tgt : Nat} {ρ : Type} {ra rb : Option ρ} {r : ρ} (hX : zg_ok X cc own nL fr lo sf mc D G A) (hd : decode cc pc = .ok (.ifCond .lt off, 3))  (ht : (pc : Int) + off = (tgt : Int)) (h : (if x < 0 then ra else rb) = some r) (k1 : ra = some r → zg X D G A Q sf ck w tgt lv st) (k2 : rb = some r → zg X D G A Q sf ck w (pc + 3) lv st) : zg X D G A Q sf ck w pc lv (.int x :: st) := by
  obtain ⟨p, l, e, R, s, m, args, below, meth, c⟩ := X
  obtain ⟨hx, hb, hml, ho, hts, hK, hA, hlk, hfr, hR1, hR2, hlo, hZ⟩ := hX
  intro H locs ls h1 h2 h3
  by_cases hq : x < 0
  · rw [if_pos hq] at h
    exact lv_if_lt hx hb hd ht (fun _ => k1 h H locs ls h1 h2 h3) (fun z => absurd hq z)
  · rw [if_neg hq] at h
    exact lv_if_lt hx hb hd ht (fun z => absurd z hq) (fun _ => k2 h H locs ls h1 h2 h3)
theorem zg_icmp_lt {X : zg_X} {D : va_G} {G : zw_G} {A : Nat → Prop} {Q : State → Prop} {sf ck : Nat} {w : zw_T} {pc : Nat} {lv : List (Option Value)} {st : List Value} {cc : ByteArray} {own : String} {nL fr lo mc : Nat} {x y : Int32} {off : Int} {tgt : Nat} {ρ : Type} {ra rb : Option ρ} {r : ρ} (hX : zg_ok X cc own nL fr lo sf mc D G A) (hd : decode cc pc = .ok (.if_icmp .lt off, 3))  (ht : (pc : Int) + off = (tgt : Int)) (h : (if x < y then ra else rb) = some r) (k1 : ra = some r → zg X D G A Q sf ck w tgt lv st) (k2 : rb = some r → zg X D G A Q sf ck w (pc + 3) lv st) : zg X D G A Q sf ck w pc lv (.int y :: .int x :: st) := by
  obtain ⟨p, l, e, R, s, m, args, below, meth, c⟩ := X
  obtain ⟨hx, hb, hml, ho, hts, hK, hA, hlk, hfr, hR1, hR2, hlo, hZ⟩ := hX
  intro H locs ls h1 h2 h3
  by_cases hq : x < y
  · rw [if_pos hq] at h
    exact lv_icmp_lt hx hb hd ht (fun _ => k1 h H locs ls h1 h2 h3) (fun z => absurd hq z)
  · rw [if_neg hq] at h
    exact lv_icmp_lt hx hb hd ht (fun z => absurd z hq) (fun _ => k2 h H locs ls h1 h2 h3)
theorem zg_if_ge {X : zg_X} {D : va_G} {G : zw_G} {A : Nat → Prop} {Q : State → Prop} {sf ck : Nat} {w : zw_T} {pc : Nat} {lv : List (Option Value)} {st : List Value} {cc : ByteArray} {own : String} {nL fr lo mc : Nat} {x : Int32} {off : Int} {tgt : Nat} {ρ : Type} {ra rb : Option ρ} {r : ρ} (hX : zg_ok X cc own nL fr lo sf mc D G A) (hd : decode cc pc = .ok (.ifCond .ge off, 3))  (ht : (pc : Int) + off = (tgt : Int)) (h : (if 0 ≤ x then ra else rb) = some r) (k1 : ra = some r → zg X D G A Q sf ck w tgt lv st) (k2 : rb = some r → zg X D G A Q sf ck w (pc + 3) lv st) : zg X D G A Q sf ck w pc lv (.int x :: st) := by
  obtain ⟨p, l, e, R, s, m, args, below, meth, c⟩ := X
  obtain ⟨hx, hb, hml, ho, hts, hK, hA, hlk, hfr, hR1, hR2, hlo, hZ⟩ := hX
  intro H locs ls h1 h2 h3
  by_cases hq : 0 ≤ x
  · rw [if_pos hq] at h
    exact lv_if_ge hx hb hd ht (fun _ => k1 h H locs ls h1 h2 h3) (fun z => absurd hq z)
  · rw [if_neg hq] at h
    exact lv_if_ge hx hb hd ht (fun z => absurd z hq) (fun _ => k2 h H locs ls h1 h2 h3)
theorem zg_icmp_ge {X : zg_X} {D : va_G} {G : zw_G} {A : Nat → Prop} {Q : State → Prop} {sf ck : Nat} {w : zw_T} {pc : Nat} {lv : List (Option Value)} {st : List Value} {cc : ByteArray} {own : String} {nL fr lo mc : Nat} {x y : Int32} {off : Int} {tgt : Nat} {ρ : Type} {ra rb : Option ρ} {r : ρ} (hX : zg_ok X cc own nL fr lo sf mc D G A) (hd : decode cc pc = .ok (.if_icmp .ge off, 3))  (ht : (pc : Int) + off = (tgt : Int)) (h : (if y ≤ x then ra else rb) = some r) (k1 : ra = some r → zg X D G A Q sf ck w tgt lv st) (k2 : rb = some r → zg X D G A Q sf ck w (pc + 3) lv st) : zg X D G A Q sf ck w pc lv (.int y :: .int x :: st) := by
  obtain ⟨p, l, e, R, s, m, args, below, meth, c⟩ := X
  obtain ⟨hx, hb, hml, ho, hts, hK, hA, hlk, hfr, hR1, hR2, hlo, hZ⟩ := hX
  intro H locs ls h1 h2 h3
  by_cases hq : y ≤ x
  · rw [if_pos hq] at h
    exact lv_icmp_ge hx hb hd ht (fun _ => k1 h H locs ls h1 h2 h3) (fun z => absurd hq z)
  · rw [if_neg hq] at h
    exact lv_icmp_ge hx hb hd ht (fun z => absurd z hq) (fun _ => k2 h H locs ls h1 h2 h3)
theorem zg_if_gt {X : zg_X} {D : va_G} {G : zw_G} {A : Nat → Prop} {Q : State → Prop} {sf ck : Nat} {w : zw_T} {pc : Nat} {lv : List (Option Value)} {st : List Value} {cc : ByteArray} {own : String} {nL fr lo mc : Nat} {x : Int32} {off : Int} {tgt : Nat} {ρ : Type} {ra rb : Option ρ} {r : ρ} (hX : zg_ok X cc own nL fr lo sf mc D G A) (hd : decode cc pc = .ok (.ifCond .gt off, 3))  (ht : (pc : Int) + off = (tgt : Int)) (h : (if 0 < x then ra else rb) = some r) (k1 : ra = some r → zg X D G A Q sf ck w tgt lv st) (k2 : rb = some r → zg X D G A Q sf ck w (pc + 3) lv st) : zg X D G A Q sf ck w pc lv (.int x :: st) := by
  obtain ⟨p, l, e, R, s, m, args, below, meth, c⟩ := X
  obtain ⟨hx, hb, hml, ho, hts, hK, hA, hlk, hfr, hR1, hR2, hlo, hZ⟩ := hX
  intro H locs ls h1 h2 h3
  by_cases hq : 0 < x
  · rw [if_pos hq] at h
    exact lv_if_gt hx hb hd ht (fun _ => k1 h H locs ls h1 h2 h3) (fun z => absurd hq z)
  · rw [if_neg hq] at h
    exact lv_if_gt hx hb hd ht (fun z => absurd z hq) (fun _ => k2 h H locs ls h1 h2 h3)
theorem zg_icmp_gt {X : zg_X} {D : va_G} {G : zw_G} {A : Nat → Prop} {Q : State → Prop} {sf ck : Nat} {w : zw_T} {pc : Nat} {lv : List (Option Value)} {st : List Value} {cc : ByteArray} {own : String} {nL fr lo mc : Nat} {x y : Int32} {off : Int} {tgt : Nat} {ρ : Type} {ra rb : Option ρ} {r : ρ} (hX : zg_ok X cc own nL fr lo sf mc D G A) (hd : decode cc pc = .ok (.if_icmp .gt off, 3))  (ht : (pc : Int) + off = (tgt : Int)) (h : (if y < x then ra else rb) = some r) (k1 : ra = some r → zg X D G A Q sf ck w tgt lv st) (k2 : rb = some r → zg X D G A Q sf ck w (pc + 3) lv st) : zg X D G A Q sf ck w pc lv (.int y :: .int x :: st) := by
  obtain ⟨p, l, e, R, s, m, args, below, meth, c⟩ := X
  obtain ⟨hx, hb, hml, ho, hts, hK, hA, hlk, hfr, hR1, hR2, hlo, hZ⟩ := hX
  intro H locs ls h1 h2 h3
  by_cases hq : y < x
  · rw [if_pos hq] at h
    exact lv_icmp_gt hx hb hd ht (fun _ => k1 h H locs ls h1 h2 h3) (fun z => absurd hq z)
  · rw [if_neg hq] at h
    exact lv_icmp_gt hx hb hd ht (fun z => absurd z hq) (fun _ => k2 h H locs ls h1 h2 h3)
theorem zg_if_le {X : zg_X} {D : va_G} {G : zw_G} {A : Nat → Prop} {Q : State → Prop} {sf ck : Nat} {w : zw_T} {pc : Nat} {lv : List (Option Value)} {st : List Value} {cc : ByteArray} {own : String} {nL fr lo mc : Nat} {x : Int32} {off : Int} {tgt : Nat} {ρ : Type} {ra rb : Option ρ} {r : ρ} (hX : zg_ok X cc own nL fr lo sf mc D G A) (hd : decode cc pc = .ok (.ifCond .le off, 3))  (ht : (pc : Int) + off = (tgt : Int)) (h : (if x ≤ 0 then ra else rb) = some r) (k1 : ra = some r → zg X D G A Q sf ck w tgt lv st) (k2 : rb = some r → zg X D G A Q sf ck w (pc + 3) lv st) : zg X D G A Q sf ck w pc lv (.int x :: st) := by
  obtain ⟨p, l, e, R, s, m, args, below, meth, c⟩ := X
  obtain ⟨hx, hb, hml, ho, hts, hK, hA, hlk, hfr, hR1, hR2, hlo, hZ⟩ := hX
  intro H locs ls h1 h2 h3
  by_cases hq : x ≤ 0
  · rw [if_pos hq] at h
    exact lv_if_le hx hb hd ht (fun _ => k1 h H locs ls h1 h2 h3) (fun z => absurd hq z)
  · rw [if_neg hq] at h
    exact lv_if_le hx hb hd ht (fun z => absurd z hq) (fun _ => k2 h H locs ls h1 h2 h3)
theorem zg_icmp_le {X : zg_X} {D : va_G} {G : zw_G} {A : Nat → Prop} {Q : State → Prop} {sf ck : Nat} {w : zw_T} {pc : Nat} {lv : List (Option Value)} {st : List Value} {cc : ByteArray} {own : String} {nL fr lo mc : Nat} {x y : Int32} {off : Int} {tgt : Nat} {ρ : Type} {ra rb : Option ρ} {r : ρ} (hX : zg_ok X cc own nL fr lo sf mc D G A) (hd : decode cc pc = .ok (.if_icmp .le off, 3))  (ht : (pc : Int) + off = (tgt : Int)) (h : (if x ≤ y then ra else rb) = some r) (k1 : ra = some r → zg X D G A Q sf ck w tgt lv st) (k2 : rb = some r → zg X D G A Q sf ck w (pc + 3) lv st) : zg X D G A Q sf ck w pc lv (.int y :: .int x :: st) := by
  obtain ⟨p, l, e, R, s, m, args, below, meth, c⟩ := X
  obtain ⟨hx, hb, hml, ho, hts, hK, hA, hlk, hfr, hR1, hR2, hlo, hZ⟩ := hX
  intro H locs ls h1 h2 h3
  by_cases hq : x ≤ y
  · rw [if_pos hq] at h
    exact lv_icmp_le hx hb hd ht (fun _ => k1 h H locs ls h1 h2 h3) (fun z => absurd hq z)
  · rw [if_neg hq] at h
    exact lv_icmp_le hx hb hd ht (fun z => absurd z hq) (fun _ => k2 h H locs ls h1 h2 h3)
theorem zg_acmp_eq {X : zg_X} {D : va_G} {G : zw_G} {A : Nat → Prop} {Q : State → Prop} {sf ck : Nat} {w : zw_T} {pc : Nat} {lv : List (Option Value)} {st : List Value} {cc : ByteArray} {own : String} {nL fr lo mc : Nat} {x y : Option Nat} {off : Int} {tgt : Nat} {ρ : Type} {ra rb : Option ρ} {r : ρ} (hX : zg_ok X cc own nL fr lo sf mc D G A) (hd : decode cc pc = .ok (.if_acmp .eq off, 3))  (ht : (pc : Int) + off = (tgt : Int)) (h : (if x = y then ra else rb) = some r) (k1 : ra = some r → zg X D G A Q sf ck w tgt lv st) (k2 : rb = some r → zg X D G A Q sf ck w (pc + 3) lv st) : zg X D G A Q sf ck w pc lv (va_rf y :: va_rf x :: st) := by
  obtain ⟨p, l, e, R, s, m, args, below, meth, c⟩ := X
  obtain ⟨hx, hb, hml, ho, hts, hK, hA, hlk, hfr, hR1, hR2, hlo, hZ⟩ := hX
  intro H locs ls h1 h2 h3
  by_cases hq : x = y
  · rw [if_pos hq] at h
    exact lv_acmp_eq hx hb hd ht (fun _ => k1 h H locs ls h1 h2 h3) (fun z => absurd hq z)
  · rw [if_neg hq] at h
    exact lv_acmp_eq hx hb hd ht (fun z => absurd z hq) (fun _ => k2 h H locs ls h1 h2 h3)
theorem zg_acmp_ne {X : zg_X} {D : va_G} {G : zw_G} {A : Nat → Prop} {Q : State → Prop} {sf ck : Nat} {w : zw_T} {pc : Nat} {lv : List (Option Value)} {st : List Value} {cc : ByteArray} {own : String} {nL fr lo mc : Nat} {x y : Option Nat} {off : Int} {tgt : Nat} {ρ : Type} {ra rb : Option ρ} {r : ρ} (hX : zg_ok X cc own nL fr lo sf mc D G A) (hd : decode cc pc = .ok (.if_acmp .ne off, 3))  (ht : (pc : Int) + off = (tgt : Int)) (h : (if x = y then ra else rb) = some r) (k1 : ra = some r → zg X D G A Q sf ck w (pc + 3) lv st) (k2 : rb = some r → zg X D G A Q sf ck w tgt lv st) : zg X D G A Q sf ck w pc lv (va_rf y :: va_rf x :: st) := by
  obtain ⟨p, l, e, R, s, m, args, below, meth, c⟩ := X
  obtain ⟨hx, hb, hml, ho, hts, hK, hA, hlk, hfr, hR1, hR2, hlo, hZ⟩ := hX
  intro H locs ls h1 h2 h3
  by_cases hq : x = y
  · rw [if_pos hq] at h
    exact lv_acmp_ne hx hb hd ht (fun z => absurd hq z) (fun _ => k1 h H locs ls h1 h2 h3)
  · rw [if_neg hq] at h
    exact lv_acmp_ne hx hb hd ht (fun _ => k2 h H locs ls h1 h2 h3) (fun z => absurd z hq)
theorem zg_ifnull {X : zg_X} {D : va_G} {G : zw_G} {A : Nat → Prop} {Q : State → Prop} {sf ck : Nat} {w : zw_T} {pc : Nat} {lv : List (Option Value)} {st : List Value} {cc : ByteArray} {own : String} {nL fr lo mc : Nat} {x : Option Nat} {off : Int} {tgt : Nat} {ρ : Type} {ra rb : Option ρ} {r : ρ} (hX : zg_ok X cc own nL fr lo sf mc D G A) (hd : decode cc pc = .ok (.ifnull off, 3))  (ht : (pc : Int) + off = (tgt : Int)) (h : (if x = none then ra else rb) = some r) (k1 : ra = some r → zg X D G A Q sf ck w tgt lv st) (k2 : rb = some r → zg X D G A Q sf ck w (pc + 3) lv st) : zg X D G A Q sf ck w pc lv (va_rf x :: st) := by
  obtain ⟨p, l, e, R, s, m, args, below, meth, c⟩ := X
  obtain ⟨hx, hb, hml, ho, hts, hK, hA, hlk, hfr, hR1, hR2, hlo, hZ⟩ := hX
  intro H locs ls h1 h2 h3
  cases x with
  | none => exact lv_ifnullN hx hb hd ht (k1 (by simpa using h) H locs ls h1 h2 h3)
  | some x => exact lv_ifnull hx hb hd (k2 (by simpa using h) H locs ls h1 h2 h3)
theorem zg_ifnonnull {X : zg_X} {D : va_G} {G : zw_G} {A : Nat → Prop} {Q : State → Prop} {sf ck : Nat} {w : zw_T} {pc : Nat} {lv : List (Option Value)} {st : List Value} {cc : ByteArray} {own : String} {nL fr lo mc : Nat} {x : Option Nat} {off : Int} {tgt : Nat} {ρ : Type} {ra rb : Option ρ} {r : ρ} (hX : zg_ok X cc own nL fr lo sf mc D G A) (hd : decode cc pc = .ok (.ifnonnull off, 3))  (ht : (pc : Int) + off = (tgt : Int)) (h : (if x = none then ra else rb) = some r) (k1 : ra = some r → zg X D G A Q sf ck w (pc + 3) lv st) (k2 : rb = some r → zg X D G A Q sf ck w tgt lv st) : zg X D G A Q sf ck w pc lv (va_rf x :: st) := by
  obtain ⟨p, l, e, R, s, m, args, below, meth, c⟩ := X
  obtain ⟨hx, hb, hml, ho, hts, hK, hA, hlk, hfr, hR1, hR2, hlo, hZ⟩ := hX
  intro H locs ls h1 h2 h3
  cases x with
  | none => exact lv_ifnonnullN hx hb hd (k1 (by simpa using h) H locs ls h1 h2 h3)
  | some x => exact lv_ifnonnull hx hb hd ht (k2 (by simpa using h) H locs ls h1 h2 h3)
theorem zg_goto {X : zg_X} {D : va_G} {G : zw_G} {A : Nat → Prop} {Q : State → Prop} {sf ck : Nat} {w : zw_T} {pc : Nat} {lv : List (Option Value)} {st : List Value} {cc : ByteArray} {own : String} {nL fr lo mc : Nat} {off : Int} {tgt : Nat} (hX : zg_ok X cc own nL fr lo sf mc D G A) (hd : decode cc pc = .ok (.goto off, 3))  (ht : (pc : Int) + off = (tgt : Int)) (k : zg X D G A Q sf ck w tgt lv st) : zg X D G A Q sf ck w pc lv st := by
  obtain ⟨p, l, e, R, s, m, args, below, meth, c⟩ := X
  obtain ⟨hx, hb, hml, ho, hts, hK, hA, hlk, hfr, hR1, hR2, hlo, hZ⟩ := hX
  intro H locs ls h1 h2 h3
  exact lv_goto hx hb hd ht (k H locs ls h1 h2 h3)
theorem zv_cat (o : Option Nat) : (va_rf o).category = 1 := by cases o <;> rfl
theorem zv_no (C : String) (o : Option Nat) : narrow (.object C) (va_rf o) = va_rf o ∧ fits (.object C) (va_rf o) = true := by cases o <;> exact ⟨rfl, rfl⟩
theorem zv_na (t : FieldType) (o : Option Nat) : narrow (.array t) (va_rf o) = va_rf o ∧ fits (.array t) (va_rf o) = true := by cases o <;> exact ⟨rfl, rfl⟩
theorem zv_s0 : (([] : List Value).map fun v => v.category).sum ≤ 0 := Nat.le_refl 0
theorem zv_s {v : Value} {st : List Value} {n : Nat} (h : v.category = 1) (k : (st.map fun v => v.category).sum ≤ n) : ((v :: st).map fun v => v.category).sum ≤ n + 1 := by
  rw [List.map_cons, List.sum_cons, h]
  omega
theorem zv_s2 {v : Value} {st : List Value} {n : Nat} (h : v.category = 2) (k : (st.map fun v => v.category).sum ≤ n) : ((v :: st).map fun v => v.category).sum ≤ n + 2 := by
  rw [List.map_cons, List.sum_cons, h]
  omega
def zk_F : Nat := 3000
theorem zg_tsw4 {X : zg_X} {D : va_G} {G : zw_G} {A : Nat → Prop} {Q : State → Prop} {sf ck : Nat} {w : zw_T} {pc : Nat} {lv : List (Option Value)} {st : List Value} {cc : ByteArray} {own : String} {nL fr lo mc : Nat} {x : Int32} {od o0 o1 o2 o3 : Int} {len gd g0 g1 g2 g3 : Nat} {ρ : Type} {rd r0 r1 r2 r3 : Option ρ} {r : ρ} (hX : zg_ok X cc own nL fr lo sf mc D G A) (hd : decode cc pc = .ok (.tableswitch od 0 3 #[o0, o1, o2, o3], len))  (td : (pc : Int) + od = (gd : Int)) (t0 : (pc : Int) + o0 = (g0 : Int)) (t1 : (pc : Int) + o1 = (g1 : Int)) (t2 : (pc : Int) + o2 = (g2 : Int)) (t3 : (pc : Int) + o3 = (g3 : Int)) (h : (if x = 0 then r0 else (if x = 1 then r1 else (if x = 2 then r2 else if x = 3 then r3 else rd))) = some r) (k0 : r0 = some r → zg X D G A Q sf ck w g0 lv st) (k1 : r1 = some r → zg X D G A Q sf ck w g1 lv st) (k2 : r2 = some r → zg X D G A Q sf ck w g2 lv st) (k3 : r3 = some r → zg X D G A Q sf ck w g3 lv st) (kd : rd = some r → zg X D G A Q sf ck w gd lv st) : zg X D G A Q sf ck w pc lv (.int x :: st) := by
  obtain ⟨p, l, e, R, s, m, args, below, meth, c⟩ := X
  obtain ⟨hx, hb, hml, ho, hts, hK, hA, hlk, hfr, hR1, hR2, hlo, hZ⟩ := hX
  intro H locs ls h1 h2 h3
  by_cases q0 : x = 0
  · rw [if_pos q0] at h
    subst q0
    exact lv_tableIn hx hb hd (by decide) (by decide) rfl t0 (k0 h H locs ls h1 h2 h3)
  · rw [if_neg q0] at h
    by_cases q1 : x = 1
    · rw [if_pos q1] at h
      subst q1
      exact lv_tableIn hx hb hd (by decide) (by decide) rfl t1 (k1 h H locs ls h1 h2 h3)
    · rw [if_neg q1] at h
      by_cases q2 : x = 2
      · rw [if_pos q2] at h
        subst q2
        exact lv_tableIn hx hb hd (by decide) (by decide) rfl t2 (k2 h H locs ls h1 h2 h3)
      · rw [if_neg q2] at h
        by_cases q3 : x = 3
        · rw [if_pos q3] at h
          subst q3
          exact lv_tableIn hx hb hd (by decide) (by decide) rfl t3 (k3 h H locs ls h1 h2 h3)
        · rw [if_neg q3] at h
          have n0 := lv_neT q0 (a := 0) (by decide)
          have n1 := lv_neT q1 (a := 1) (by decide)
          have n2 := lv_neT q2 (a := 2) (by decide)
          have n3 := lv_neT q3 (a := 3) (by decide)
          exact lv_tableOut hx hb hd (by omega) td (kd h H locs ls h1 h2 h3)
