section
variable {l : Launch} {G : Gl} {nL : Nat} {X : Bx} {Q : State → Prop} {cc : ByteArray} {own : String} {ret : Option FieldType} {fr pc : Nat} {lv : List (Nat × Value)} {st : List Value} {mu : Mu} {nu : Nu}
theorem m_iconst (C : Cx G nL X cc own ret fr) {n : Int} (v : Int32) (d : decode cc pc = .ok (.iconst n, 1)) (hv : Int32.ofInt n = v) (kk : Mq l G nL X Q (pc + 1) lv (.int v :: st) mu nu) : Mq l G nL X Q pc lv st mu nu := by
  obtain ⟨p, e, R, s, m, args, below, meth, c, cells, slots⟩ := X
  obtain ⟨hx, hb, hml, ho, hts, hK, hGS, hGN, hd, hr, hlk, hfr, hlo, hce, hsl⟩ := C
  intro H locs ls hP hS hl
  exact lv_iconst hx hb d hv (kk H locs ls hP hS hl)
theorem m_bipush (C : Cx G nL X cc own ret fr) {n : Int} (v : Int32) (d : decode cc pc = .ok (.bipush n, 2)) (hv : (Int8.ofInt n).toInt32 = v) (kk : Mq l G nL X Q (pc + 2) lv (.int v :: st) mu nu) : Mq l G nL X Q pc lv st mu nu := by
  obtain ⟨p, e, R, s, m, args, below, meth, c, cells, slots⟩ := X
  obtain ⟨hx, hb, hml, ho, hts, hK, hGS, hGN, hd, hr, hlk, hfr, hlo, hce, hsl⟩ := C
  intro H locs ls hP hS hl
  exact lv_bipush hx hb d hv (kk H locs ls hP hS hl)
theorem m_sipush (C : Cx G nL X cc own ret fr) {n : Int} (v : Int32) (d : decode cc pc = .ok (.sipush n, 3)) (hv : (Int16.ofInt n).toInt32 = v) (kk : Mq l G nL X Q (pc + 3) lv (.int v :: st) mu nu) : Mq l G nL X Q pc lv st mu nu := by
  obtain ⟨p, e, R, s, m, args, below, meth, c, cells, slots⟩ := X
  obtain ⟨hx, hb, hml, ho, hts, hK, hGS, hGN, hd, hr, hlk, hfr, hlo, hce, hsl⟩ := C
  intro H locs ls hP hS hl
  exact lv_sipush hx hb d hv (kk H locs ls hP hS hl)
theorem m_lconst (C : Cx G nL X cc own ret fr) {n : Fin 2} (v : Int64) (d : decode cc pc = .ok (.lconst n, 1)) (hv : Int64.ofNat (n : Nat) = v) (kk : Mq l G nL X Q (pc + 1) lv (.long v :: st) mu nu) : Mq l G nL X Q pc lv st mu nu := by
  obtain ⟨p, e, R, s, m, args, below, meth, c, cells, slots⟩ := X
  obtain ⟨hx, hb, hml, ho, hts, hK, hGS, hGN, hd, hr, hlk, hfr, hlo, hce, hsl⟩ := C
  intro H locs ls hP hS hl
  exact lv_lconst hx hb d hv (kk H locs ls hP hS hl)
theorem m_ldc (C : Cx G nL X cc own ret fr) {index : Nat} (v : Int32) (hw : Cond.constant own index v ∈ twl) (d : decode cc pc = .ok (.ldc index, 2)) (kk : Mq l G nL X Q (pc + 2) lv (.int v :: st) mu nu) : Mq l G nL X Q pc lv st mu nu := by
  obtain ⟨p, e, R, s, m, args, below, meth, c, cells, slots⟩ := X
  obtain ⟨hx, hb, hml, ho, hts, hK, hGS, hGN, hd, hr, hlk, hfr, hlo, hce, hsl⟩ := C
  intro H locs ls hP hS hl
  exact lv_ldc hx hb ho (hts _ hw) d (kk H locs ls hP hS hl)
theorem m_ldcw (C : Cx G nL X cc own ret fr) {index : Nat} (v : Int32) (hw : Cond.constant own index v ∈ twl) (d : decode cc pc = .ok (.ldc_w index, 3)) (kk : Mq l G nL X Q (pc + 3) lv (.int v :: st) mu nu) : Mq l G nL X Q pc lv st mu nu := by
  obtain ⟨p, e, R, s, m, args, below, meth, c, cells, slots⟩ := X
  obtain ⟨hx, hb, hml, ho, hts, hK, hGS, hGN, hd, hr, hlk, hfr, hlo, hce, hsl⟩ := C
  intro H locs ls hP hS hl
  exact lv_ldcw hx hb ho (hts _ hw) d (kk H locs ls hP hS hl)
theorem m_ldc2 (C : Cx G nL X cc own ret fr) {index : Nat} (v : Int64) (hw : Cond.constantLong own index v ∈ twl) (d : decode cc pc = .ok (.ldc2_w index, 3)) (kk : Mq l G nL X Q (pc + 3) lv (.long v :: st) mu nu) : Mq l G nL X Q pc lv st mu nu := by
  obtain ⟨p, e, R, s, m, args, below, meth, c, cells, slots⟩ := X
  obtain ⟨hx, hb, hml, ho, hts, hK, hGS, hGN, hd, hr, hlk, hfr, hlo, hce, hsl⟩ := C
  intro H locs ls hP hS hl
  exact lv_ldc2 hx hb ho (hts _ hw) d (kk H locs ls hP hS hl)
theorem m_iload (C : Cx G nL X cc own ret fr) {i : Nat} {x : Int32} (j : Nat) (d : decode cc pc = .ok (.iload i, 2)) (h : lv[j]? = some (i, .int x)) (kk : Mq l G nL X Q (pc + 2) lv (.int x :: st) mu nu) : Mq l G nL X Q pc lv st mu nu := by
  obtain ⟨p, e, R, s, m, args, below, meth, c, cells, slots⟩ := X
  obtain ⟨hx, hb, hml, ho, hts, hK, hGS, hGN, hd, hr, hlk, hfr, hlo, hce, hsl⟩ := C
  intro H locs ls hP hS hl
  exact lv_iload hx hb d (lv_at hl j h) (kk H locs ls hP hS hl)
theorem m_iload_n (C : Cx G nL X cc own ret fr) {k : Fin 4} {x : Int32} (j : Nat) (d : decode cc pc = .ok (.iload_n k, 1)) (h : lv[j]? = some ((k : Nat), .int x)) (kk : Mq l G nL X Q (pc + 1) lv (.int x :: st) mu nu) : Mq l G nL X Q pc lv st mu nu := by
  obtain ⟨p, e, R, s, m, args, below, meth, c, cells, slots⟩ := X
  obtain ⟨hx, hb, hml, ho, hts, hK, hGS, hGN, hd, hr, hlk, hfr, hlo, hce, hsl⟩ := C
  intro H locs ls hP hS hl
  exact lv_iload_n hx hb d rfl (lv_at hl j h) (kk H locs ls hP hS hl)
theorem m_lload (C : Cx G nL X cc own ret fr) {i : Nat} {x : Int64} (j : Nat) (d : decode cc pc = .ok (.lload i, 2)) (h : lv[j]? = some (i, .long x)) (kk : Mq l G nL X Q (pc + 2) lv (.long x :: st) mu nu) : Mq l G nL X Q pc lv st mu nu := by
  obtain ⟨p, e, R, s, m, args, below, meth, c, cells, slots⟩ := X
  obtain ⟨hx, hb, hml, ho, hts, hK, hGS, hGN, hd, hr, hlk, hfr, hlo, hce, hsl⟩ := C
  intro H locs ls hP hS hl
  exact lv_lload hx hb d (lv_at hl j h) (kk H locs ls hP hS hl)
theorem m_lload_n (C : Cx G nL X cc own ret fr) {k : Fin 4} {x : Int64} (j : Nat) (d : decode cc pc = .ok (.lload_n k, 1)) (h : lv[j]? = some ((k : Nat), .long x)) (kk : Mq l G nL X Q (pc + 1) lv (.long x :: st) mu nu) : Mq l G nL X Q pc lv st mu nu := by
  obtain ⟨p, e, R, s, m, args, below, meth, c, cells, slots⟩ := X
  obtain ⟨hx, hb, hml, ho, hts, hK, hGS, hGN, hd, hr, hlk, hfr, hlo, hce, hsl⟩ := C
  intro H locs ls hP hS hl
  exact lv_lload_n hx hb d rfl (lv_at hl j h) (kk H locs ls hP hS hl)
theorem m_aload (C : Cx G nL X cc own ret fr) {i : Nat} {x : Nat} (j : Nat) (d : decode cc pc = .ok (.aload i, 2)) (h : lv[j]? = some (i, .ref x)) (kk : Mq l G nL X Q (pc + 2) lv (.ref x :: st) mu nu) : Mq l G nL X Q pc lv st mu nu := by
  obtain ⟨p, e, R, s, m, args, below, meth, c, cells, slots⟩ := X
  obtain ⟨hx, hb, hml, ho, hts, hK, hGS, hGN, hd, hr, hlk, hfr, hlo, hce, hsl⟩ := C
  intro H locs ls hP hS hl
  exact lv_aload hx hb d (lv_at hl j h) (kk H locs ls hP hS hl)
theorem m_aload_n (C : Cx G nL X cc own ret fr) {k : Fin 4} {x : Nat} (j : Nat) (d : decode cc pc = .ok (.aload_n k, 1)) (h : lv[j]? = some ((k : Nat), .ref x)) (kk : Mq l G nL X Q (pc + 1) lv (.ref x :: st) mu nu) : Mq l G nL X Q pc lv st mu nu := by
  obtain ⟨p, e, R, s, m, args, below, meth, c, cells, slots⟩ := X
  obtain ⟨hx, hb, hml, ho, hts, hK, hGS, hGN, hd, hr, hlk, hfr, hlo, hce, hsl⟩ := C
  intro H locs ls hP hS hl
  exact lv_aload_n hx hb d rfl (lv_at hl j h) (kk H locs ls hP hS hl)
theorem m_istore (C : Cx G nL X cc own ret fr) {i : Nat} {x : Int32} (lw : List (Nat × Value)) (d : decode cc pc = .ok (.istore i, 2)) (hn : i < nL) (hv : (i, Value.int x) :: lv.filter (fun q => !(q.1 == i) && !(q.1 + 1 == i && q.2.category == 2)) = lw) (kk : Mq l G nL X Q (pc + 2) lw st mu nu) : Mq l G nL X Q pc lv (.int x :: st) mu nu := by
  obtain ⟨p, e, R, s, m, args, below, meth, c, cells, slots⟩ := X
  obtain ⟨hx, hb, hml, ho, hts, hK, hGS, hGN, hd, hr, hlk, hfr, hlo, hce, hsl⟩ := C
  intro H locs ls hP hS hl
  exact lv_istore hx hb d hl hn hv (fun ls hl => (kk H locs ls hP hS hl))
theorem m_istore_n (C : Cx G nL X cc own ret fr) {k : Fin 4} {x : Int32} (lw : List (Nat × Value)) (d : decode cc pc = .ok (.istore_n k, 1)) (hn : (k : Nat) < nL) (hv : ((k : Nat), Value.int x) :: lv.filter (fun q => !(q.1 == (k : Nat)) && !(q.1 + 1 == (k : Nat) && q.2.category == 2)) = lw) (kk : Mq l G nL X Q (pc + 1) lw st mu nu) : Mq l G nL X Q pc lv (.int x :: st) mu nu := by
  obtain ⟨p, e, R, s, m, args, below, meth, c, cells, slots⟩ := X
  obtain ⟨hx, hb, hml, ho, hts, hK, hGS, hGN, hd, hr, hlk, hfr, hlo, hce, hsl⟩ := C
  intro H locs ls hP hS hl
  exact lv_istore_n hx hb d rfl hl hn hv (fun ls hl => (kk H locs ls hP hS hl))
theorem m_lstore (C : Cx G nL X cc own ret fr) {i : Nat} {x : Int64} (lw : List (Nat × Value)) (d : decode cc pc = .ok (.lstore i, 2)) (hn : i + 1 < nL) (hv : (i, Value.long x) :: lv.filter (fun q => !(q.1 == i) && (!(q.1 == i + 1) && !(q.1 + 1 == i && q.2.category == 2))) = lw) (kk : Mq l G nL X Q (pc + 2) lw st mu nu) : Mq l G nL X Q pc lv (.long x :: st) mu nu := by
  obtain ⟨p, e, R, s, m, args, below, meth, c, cells, slots⟩ := X
  obtain ⟨hx, hb, hml, ho, hts, hK, hGS, hGN, hd, hr, hlk, hfr, hlo, hce, hsl⟩ := C
  intro H locs ls hP hS hl
  exact lv_lstore hx hb d hl hn hv (fun ls hl => (kk H locs ls hP hS hl))
theorem m_lstore_n (C : Cx G nL X cc own ret fr) {k : Fin 4} {x : Int64} (lw : List (Nat × Value)) (d : decode cc pc = .ok (.lstore_n k, 1)) (hn : (k : Nat) + 1 < nL) (hv : ((k : Nat), Value.long x) :: lv.filter (fun q => !(q.1 == (k : Nat)) && (!(q.1 == (k : Nat) + 1) && !(q.1 + 1 == (k : Nat) && q.2.category == 2))) = lw) (kk : Mq l G nL X Q (pc + 1) lw st mu nu) : Mq l G nL X Q pc lv (.long x :: st) mu nu := by
  obtain ⟨p, e, R, s, m, args, below, meth, c, cells, slots⟩ := X
  obtain ⟨hx, hb, hml, ho, hts, hK, hGS, hGN, hd, hr, hlk, hfr, hlo, hce, hsl⟩ := C
  intro H locs ls hP hS hl
  exact lv_lstore_n hx hb d rfl hl hn hv (fun ls hl => (kk H locs ls hP hS hl))
theorem m_astore (C : Cx G nL X cc own ret fr) {i : Nat} {x : Nat} (lw : List (Nat × Value)) (d : decode cc pc = .ok (.astore i, 2)) (hn : i < nL) (hv : (i, Value.ref x) :: lv.filter (fun q => !(q.1 == i) && !(q.1 + 1 == i && q.2.category == 2)) = lw) (kk : Mq l G nL X Q (pc + 2) lw st mu nu) : Mq l G nL X Q pc lv (.ref x :: st) mu nu := by
  obtain ⟨p, e, R, s, m, args, below, meth, c, cells, slots⟩ := X
  obtain ⟨hx, hb, hml, ho, hts, hK, hGS, hGN, hd, hr, hlk, hfr, hlo, hce, hsl⟩ := C
  intro H locs ls hP hS hl
  exact lv_astore hx hb d hl hn hv (fun ls hl => (kk H locs ls hP hS hl))
theorem m_astore_n (C : Cx G nL X cc own ret fr) {k : Fin 4} {x : Nat} (lw : List (Nat × Value)) (d : decode cc pc = .ok (.astore_n k, 1)) (hn : (k : Nat) < nL) (hv : ((k : Nat), Value.ref x) :: lv.filter (fun q => !(q.1 == (k : Nat)) && !(q.1 + 1 == (k : Nat) && q.2.category == 2)) = lw) (kk : Mq l G nL X Q (pc + 1) lw st mu nu) : Mq l G nL X Q pc lv (.ref x :: st) mu nu := by
  obtain ⟨p, e, R, s, m, args, below, meth, c, cells, slots⟩ := X
  obtain ⟨hx, hb, hml, ho, hts, hK, hGS, hGN, hd, hr, hlk, hfr, hlo, hce, hsl⟩ := C
  intro H locs ls hP hS hl
  exact lv_astore_n hx hb d rfl hl hn hv (fun ls hl => (kk H locs ls hP hS hl))
theorem m_iinc (C : Cx G nL X cc own ret fr) {i : Nat} {n : Int} {x : Int32} (j : Nat) (v : Int32) (lw : List (Nat × Value)) (d : decode cc pc = .ok (.iinc i n, 3)) (h : lv[j]? = some (i, .int x)) (hv : x + Int32.ofInt n = v) (hn : i < nL) (hw : (i, Value.int v) :: lv.filter (fun q => !(q.1 == i) && !(q.1 + 1 == i && q.2.category == 2)) = lw) (kk : Mq l G nL X Q (pc + 3) lw st mu nu) : Mq l G nL X Q pc lv st mu nu := by
  obtain ⟨p, e, R, s, m, args, below, meth, c, cells, slots⟩ := X
  obtain ⟨hx, hb, hml, ho, hts, hK, hGS, hGN, hd, hr, hlk, hfr, hlo, hce, hsl⟩ := C
  intro H locs ls hP hS hl
  exact lv_iinc hx hb d hl h hv hn hw (fun ls hl => (kk H locs ls hP hS hl))
theorem m_dup (C : Cx G nL X cc own ret fr) {va : Value} (d : decode cc pc = .ok (.dup, 1)) (hc : va.category = 1) (kk : Mq l G nL X Q (pc + 1) lv (va :: va :: st) mu nu) : Mq l G nL X Q pc lv (va :: st) mu nu := by
  obtain ⟨p, e, R, s, m, args, below, meth, c, cells, slots⟩ := X
  obtain ⟨hx, hb, hml, ho, hts, hK, hGS, hGN, hd, hr, hlk, hfr, hlo, hce, hsl⟩ := C
  intro H locs ls hP hS hl
  exact lv_dup hx hb d hc (kk H locs ls hP hS hl)
theorem m_pop (C : Cx G nL X cc own ret fr) {va : Value} (d : decode cc pc = .ok (.pop, 1)) (hc : va.category = 1) (kk : Mq l G nL X Q (pc + 1) lv st mu nu) : Mq l G nL X Q pc lv (va :: st) mu nu := by
  obtain ⟨p, e, R, s, m, args, below, meth, c, cells, slots⟩ := X
  obtain ⟨hx, hb, hml, ho, hts, hK, hGS, hGN, hd, hr, hlk, hfr, hlo, hce, hsl⟩ := C
  intro H locs ls hP hS hl
  exact lv_pop hx hb d hc (kk H locs ls hP hS hl)
theorem m_iadd (C : Cx G nL X cc own ret fr) {x y : Int32} (d : decode cc pc = .ok (.iadd, 1)) (kk : Mq l G nL X Q (pc + 1) lv (.int (x + y) :: st) mu nu) : Mq l G nL X Q pc lv (.int y :: .int x :: st) mu nu := by
  obtain ⟨p, e, R, s, m, args, below, meth, c, cells, slots⟩ := X
  obtain ⟨hx, hb, hml, ho, hts, hK, hGS, hGN, hd, hr, hlk, hfr, hlo, hce, hsl⟩ := C
  intro H locs ls hP hS hl
  exact lv_iadd hx hb d (kk H locs ls hP hS hl)
theorem m_isub (C : Cx G nL X cc own ret fr) {x y : Int32} (d : decode cc pc = .ok (.isub, 1)) (kk : Mq l G nL X Q (pc + 1) lv (.int (x - y) :: st) mu nu) : Mq l G nL X Q pc lv (.int y :: .int x :: st) mu nu := by
  obtain ⟨p, e, R, s, m, args, below, meth, c, cells, slots⟩ := X
  obtain ⟨hx, hb, hml, ho, hts, hK, hGS, hGN, hd, hr, hlk, hfr, hlo, hce, hsl⟩ := C
  intro H locs ls hP hS hl
  exact lv_isub hx hb d (kk H locs ls hP hS hl)
theorem m_imul (C : Cx G nL X cc own ret fr) {x y : Int32} (d : decode cc pc = .ok (.imul, 1)) (kk : Mq l G nL X Q (pc + 1) lv (.int (x * y) :: st) mu nu) : Mq l G nL X Q pc lv (.int y :: .int x :: st) mu nu := by
  obtain ⟨p, e, R, s, m, args, below, meth, c, cells, slots⟩ := X
  obtain ⟨hx, hb, hml, ho, hts, hK, hGS, hGN, hd, hr, hlk, hfr, hlo, hce, hsl⟩ := C
  intro H locs ls hP hS hl
  exact lv_imul hx hb d (kk H locs ls hP hS hl)
theorem m_iand (C : Cx G nL X cc own ret fr) {x y : Int32} (d : decode cc pc = .ok (.iand, 1)) (kk : Mq l G nL X Q (pc + 1) lv (.int (x &&& y) :: st) mu nu) : Mq l G nL X Q pc lv (.int y :: .int x :: st) mu nu := by
  obtain ⟨p, e, R, s, m, args, below, meth, c, cells, slots⟩ := X
  obtain ⟨hx, hb, hml, ho, hts, hK, hGS, hGN, hd, hr, hlk, hfr, hlo, hce, hsl⟩ := C
  intro H locs ls hP hS hl
  exact lv_iand hx hb d (kk H locs ls hP hS hl)
theorem m_ior (C : Cx G nL X cc own ret fr) {x y : Int32} (d : decode cc pc = .ok (.ior, 1)) (kk : Mq l G nL X Q (pc + 1) lv (.int (x ||| y) :: st) mu nu) : Mq l G nL X Q pc lv (.int y :: .int x :: st) mu nu := by
  obtain ⟨p, e, R, s, m, args, below, meth, c, cells, slots⟩ := X
  obtain ⟨hx, hb, hml, ho, hts, hK, hGS, hGN, hd, hr, hlk, hfr, hlo, hce, hsl⟩ := C
  intro H locs ls hP hS hl
  exact lv_ior hx hb d (kk H locs ls hP hS hl)
theorem m_ixor (C : Cx G nL X cc own ret fr) {x y : Int32} (d : decode cc pc = .ok (.ixor, 1)) (kk : Mq l G nL X Q (pc + 1) lv (.int (x ^^^ y) :: st) mu nu) : Mq l G nL X Q pc lv (.int y :: .int x :: st) mu nu := by
  obtain ⟨p, e, R, s, m, args, below, meth, c, cells, slots⟩ := X
  obtain ⟨hx, hb, hml, ho, hts, hK, hGS, hGN, hd, hr, hlk, hfr, hlo, hce, hsl⟩ := C
  intro H locs ls hP hS hl
  exact lv_ixor hx hb d (kk H locs ls hP hS hl)
theorem m_ishl (C : Cx G nL X cc own ret fr) {x y : Int32} (d : decode cc pc = .ok (.ishl, 1)) (kk : Mq l G nL X Q (pc + 1) lv (.int (x <<< (y &&& 31)) :: st) mu nu) : Mq l G nL X Q pc lv (.int y :: .int x :: st) mu nu := by
  obtain ⟨p, e, R, s, m, args, below, meth, c, cells, slots⟩ := X
  obtain ⟨hx, hb, hml, ho, hts, hK, hGS, hGN, hd, hr, hlk, hfr, hlo, hce, hsl⟩ := C
  intro H locs ls hP hS hl
  exact lv_ishl hx hb d (kk H locs ls hP hS hl)
theorem m_ishr (C : Cx G nL X cc own ret fr) {x y : Int32} (d : decode cc pc = .ok (.ishr, 1)) (kk : Mq l G nL X Q (pc + 1) lv (.int (x >>> (y &&& 31)) :: st) mu nu) : Mq l G nL X Q pc lv (.int y :: .int x :: st) mu nu := by
  obtain ⟨p, e, R, s, m, args, below, meth, c, cells, slots⟩ := X
  obtain ⟨hx, hb, hml, ho, hts, hK, hGS, hGN, hd, hr, hlk, hfr, hlo, hce, hsl⟩ := C
  intro H locs ls hP hS hl
  exact lv_ishr hx hb d (kk H locs ls hP hS hl)
theorem m_idiv (C : Cx G nL X cc own ret fr) {x y : Int32} (d : decode cc pc = .ok (.idiv, 1)) (hne : ¬ y = 0) (kk : Mq l G nL X Q (pc + 1) lv (.int (x / y) :: st) mu nu) : Mq l G nL X Q pc lv (.int y :: .int x :: st) mu nu := by
  obtain ⟨p, e, R, s, m, args, below, meth, c, cells, slots⟩ := X
  obtain ⟨hx, hb, hml, ho, hts, hK, hGS, hGN, hd, hr, hlk, hfr, hlo, hce, hsl⟩ := C
  intro H locs ls hP hS hl
  exact lv_idiv hx hb d hne (kk H locs ls hP hS hl)
theorem m_irem (C : Cx G nL X cc own ret fr) {x y : Int32} (d : decode cc pc = .ok (.irem, 1)) (hne : ¬ y = 0) (kk : Mq l G nL X Q (pc + 1) lv (.int (x - x / y * y) :: st) mu nu) : Mq l G nL X Q pc lv (.int y :: .int x :: st) mu nu := by
  obtain ⟨p, e, R, s, m, args, below, meth, c, cells, slots⟩ := X
  obtain ⟨hx, hb, hml, ho, hts, hK, hGS, hGN, hd, hr, hlk, hfr, hlo, hce, hsl⟩ := C
  intro H locs ls hP hS hl
  exact lv_irem hx hb d hne (kk H locs ls hP hS hl)
theorem m_ladd (C : Cx G nL X cc own ret fr) {x y : Int64} (d : decode cc pc = .ok (.ladd, 1)) (kk : Mq l G nL X Q (pc + 1) lv (.long (x + y) :: st) mu nu) : Mq l G nL X Q pc lv (.long y :: .long x :: st) mu nu := by
  obtain ⟨p, e, R, s, m, args, below, meth, c, cells, slots⟩ := X
  obtain ⟨hx, hb, hml, ho, hts, hK, hGS, hGN, hd, hr, hlk, hfr, hlo, hce, hsl⟩ := C
  intro H locs ls hP hS hl
  exact lv_ladd hx hb d (kk H locs ls hP hS hl)
theorem m_lmul (C : Cx G nL X cc own ret fr) {x y : Int64} (d : decode cc pc = .ok (.lmul, 1)) (kk : Mq l G nL X Q (pc + 1) lv (.long (x * y) :: st) mu nu) : Mq l G nL X Q pc lv (.long y :: .long x :: st) mu nu := by
  obtain ⟨p, e, R, s, m, args, below, meth, c, cells, slots⟩ := X
  obtain ⟨hx, hb, hml, ho, hts, hK, hGS, hGN, hd, hr, hlk, hfr, hlo, hce, hsl⟩ := C
  intro H locs ls hP hS hl
  exact lv_lmul hx hb d (kk H locs ls hP hS hl)
theorem m_ldiv (C : Cx G nL X cc own ret fr) {x y : Int64} (d : decode cc pc = .ok (.ldiv, 1)) (hne : ¬ y = 0) (kk : Mq l G nL X Q (pc + 1) lv (.long (x / y) :: st) mu nu) : Mq l G nL X Q pc lv (.long y :: .long x :: st) mu nu := by
  obtain ⟨p, e, R, s, m, args, below, meth, c, cells, slots⟩ := X
  obtain ⟨hx, hb, hml, ho, hts, hK, hGS, hGN, hd, hr, hlk, hfr, hlo, hce, hsl⟩ := C
  intro H locs ls hP hS hl
  exact lv_ldiv hx hb d hne (kk H locs ls hP hS hl)
theorem m_lrem (C : Cx G nL X cc own ret fr) {x y : Int64} (d : decode cc pc = .ok (.lrem, 1)) (hne : ¬ y = 0) (kk : Mq l G nL X Q (pc + 1) lv (.long (x - x / y * y) :: st) mu nu) : Mq l G nL X Q pc lv (.long y :: .long x :: st) mu nu := by
  obtain ⟨p, e, R, s, m, args, below, meth, c, cells, slots⟩ := X
  obtain ⟨hx, hb, hml, ho, hts, hK, hGS, hGN, hd, hr, hlk, hfr, hlo, hce, hsl⟩ := C
  intro H locs ls hP hS hl
  exact lv_lrem hx hb d hne (kk H locs ls hP hS hl)
theorem m_lcmp (C : Cx G nL X cc own ret fr) {x y : Int64} (d : decode cc pc = .ok (.lcmp, 1)) (kk : Mq l G nL X Q (pc + 1) lv (.int (lg_cmp x y) :: st) mu nu) : Mq l G nL X Q pc lv (.long y :: .long x :: st) mu nu := by
  obtain ⟨p, e, R, s, m, args, below, meth, c, cells, slots⟩ := X
  obtain ⟨hx, hb, hml, ho, hts, hK, hGS, hGN, hd, hr, hlk, hfr, hlo, hce, hsl⟩ := C
  intro H locs ls hP hS hl
  exact W.lcmp hx hb d (kk H locs ls hP hS hl)
theorem m_i2l (C : Cx G nL X cc own ret fr) {x : Int32} (d : decode cc pc = .ok (.i2l, 1)) (kk : Mq l G nL X Q (pc + 1) lv (.long x.toInt64 :: st) mu nu) : Mq l G nL X Q pc lv (.int x :: st) mu nu := by
  obtain ⟨p, e, R, s, m, args, below, meth, c, cells, slots⟩ := X
  obtain ⟨hx, hb, hml, ho, hts, hK, hGS, hGN, hd, hr, hlk, hfr, hlo, hce, hsl⟩ := C
  intro H locs ls hP hS hl
  exact lv_i2l hx hb d rfl (kk H locs ls hP hS hl)
theorem m_l2i (C : Cx G nL X cc own ret fr) {x : Int64} (d : decode cc pc = .ok (.l2i, 1)) (kk : Mq l G nL X Q (pc + 1) lv (.int x.toInt32 :: st) mu nu) : Mq l G nL X Q pc lv (.long x :: st) mu nu := by
  obtain ⟨p, e, R, s, m, args, below, meth, c, cells, slots⟩ := X
  obtain ⟨hx, hb, hml, ho, hts, hK, hGS, hGN, hd, hr, hlk, hfr, hlo, hce, hsl⟩ := C
  intro H locs ls hP hS hl
  exact lv_l2i hx hb d rfl (kk H locs ls hP hS hl)
theorem m_i2b (C : Cx G nL X cc own ret fr) {x : Int32} (d : decode cc pc = .ok (.i2b, 1)) (kk : Mq l G nL X Q (pc + 1) lv (.int x.toInt8.toInt32 :: st) mu nu) : Mq l G nL X Q pc lv (.int x :: st) mu nu := by
  obtain ⟨p, e, R, s, m, args, below, meth, c, cells, slots⟩ := X
  obtain ⟨hx, hb, hml, ho, hts, hK, hGS, hGN, hd, hr, hlk, hfr, hlo, hce, hsl⟩ := C
  intro H locs ls hP hS hl
  exact lv_i2b hx hb d rfl (kk H locs ls hP hS hl)
theorem m_goto (C : Cx G nL X cc own ret fr) {off : Int} (tgt : Nat) (d : decode cc pc = .ok (.goto off, 3)) (ht : (pc : Int) + off = (tgt : Int)) (kk : Mq l G nL X Q tgt lv st mu nu) : Mq l G nL X Q pc lv st mu nu := by
  obtain ⟨p, e, R, s, m, args, below, meth, c, cells, slots⟩ := X
  obtain ⟨hx, hb, hml, ho, hts, hK, hGS, hGN, hd, hr, hlk, hfr, hlo, hce, hsl⟩ := C
  intro H locs ls hP hS hl
  exact lv_goto hx hb d ht (kk H locs ls hP hS hl)
theorem m_if_eq (C : Cx G nL X cc own ret fr) {x : Int32} {off : Int} (tgt : Nat) (d : decode cc pc = .ok (.ifCond .eq off, 3)) (ht : (pc : Int) + off = (tgt : Int)) (kt : x = 0 → Mq l G nL X Q tgt lv st mu nu) (kf : ¬ x = 0 → Mq l G nL X Q (pc + 3) lv st mu nu) : Mq l G nL X Q pc lv (.int x :: st) mu nu := by
  obtain ⟨p, e, R, s, m, args, below, meth, c, cells, slots⟩ := X
  obtain ⟨hx, hb, hml, ho, hts, hK, hGS, hGN, hd, hr, hlk, hfr, hlo, hce, hsl⟩ := C
  intro H locs ls hP hS hl
  exact lv_if_eq hx hb d ht (fun h => kt h H locs ls hP hS hl) (fun h => kf h H locs ls hP hS hl)
theorem m_icmp_eq (C : Cx G nL X cc own ret fr) {x y : Int32} {off : Int} (tgt : Nat) (d : decode cc pc = .ok (.if_icmp .eq off, 3)) (ht : (pc : Int) + off = (tgt : Int)) (kt : x = y → Mq l G nL X Q tgt lv st mu nu) (kf : ¬ x = y → Mq l G nL X Q (pc + 3) lv st mu nu) : Mq l G nL X Q pc lv (.int y :: .int x :: st) mu nu := by
  obtain ⟨p, e, R, s, m, args, below, meth, c, cells, slots⟩ := X
  obtain ⟨hx, hb, hml, ho, hts, hK, hGS, hGN, hd, hr, hlk, hfr, hlo, hce, hsl⟩ := C
  intro H locs ls hP hS hl
  exact lv_icmp_eq hx hb d ht (fun h => kt h H locs ls hP hS hl) (fun h => kf h H locs ls hP hS hl)
theorem m_if_ne (C : Cx G nL X cc own ret fr) {x : Int32} {off : Int} (tgt : Nat) (d : decode cc pc = .ok (.ifCond .ne off, 3)) (ht : (pc : Int) + off = (tgt : Int)) (kt : ¬ x = 0 → Mq l G nL X Q tgt lv st mu nu) (kf : x = 0 → Mq l G nL X Q (pc + 3) lv st mu nu) : Mq l G nL X Q pc lv (.int x :: st) mu nu := by
  obtain ⟨p, e, R, s, m, args, below, meth, c, cells, slots⟩ := X
  obtain ⟨hx, hb, hml, ho, hts, hK, hGS, hGN, hd, hr, hlk, hfr, hlo, hce, hsl⟩ := C
  intro H locs ls hP hS hl
  exact lv_if_ne hx hb d ht (fun h => kt h H locs ls hP hS hl) (fun h => kf h H locs ls hP hS hl)
theorem m_icmp_ne (C : Cx G nL X cc own ret fr) {x y : Int32} {off : Int} (tgt : Nat) (d : decode cc pc = .ok (.if_icmp .ne off, 3)) (ht : (pc : Int) + off = (tgt : Int)) (kt : ¬ x = y → Mq l G nL X Q tgt lv st mu nu) (kf : x = y → Mq l G nL X Q (pc + 3) lv st mu nu) : Mq l G nL X Q pc lv (.int y :: .int x :: st) mu nu := by
  obtain ⟨p, e, R, s, m, args, below, meth, c, cells, slots⟩ := X
  obtain ⟨hx, hb, hml, ho, hts, hK, hGS, hGN, hd, hr, hlk, hfr, hlo, hce, hsl⟩ := C
  intro H locs ls hP hS hl
  exact lv_icmp_ne hx hb d ht (fun h => kt h H locs ls hP hS hl) (fun h => kf h H locs ls hP hS hl)
theorem m_if_lt (C : Cx G nL X cc own ret fr) {x : Int32} {off : Int} (tgt : Nat) (d : decode cc pc = .ok (.ifCond .lt off, 3)) (ht : (pc : Int) + off = (tgt : Int)) (kt : x < 0 → Mq l G nL X Q tgt lv st mu nu) (kf : ¬ x < 0 → Mq l G nL X Q (pc + 3) lv st mu nu) : Mq l G nL X Q pc lv (.int x :: st) mu nu := by
  obtain ⟨p, e, R, s, m, args, below, meth, c, cells, slots⟩ := X
  obtain ⟨hx, hb, hml, ho, hts, hK, hGS, hGN, hd, hr, hlk, hfr, hlo, hce, hsl⟩ := C
  intro H locs ls hP hS hl
  exact lv_if_lt hx hb d ht (fun h => kt h H locs ls hP hS hl) (fun h => kf h H locs ls hP hS hl)
theorem m_icmp_lt (C : Cx G nL X cc own ret fr) {x y : Int32} {off : Int} (tgt : Nat) (d : decode cc pc = .ok (.if_icmp .lt off, 3)) (ht : (pc : Int) + off = (tgt : Int)) (kt : x < y → Mq l G nL X Q tgt lv st mu nu) (kf : ¬ x < y → Mq l G nL X Q (pc + 3) lv st mu nu) : Mq l G nL X Q pc lv (.int y :: .int x :: st) mu nu := by
  obtain ⟨p, e, R, s, m, args, below, meth, c, cells, slots⟩ := X
  obtain ⟨hx, hb, hml, ho, hts, hK, hGS, hGN, hd, hr, hlk, hfr, hlo, hce, hsl⟩ := C
  intro H locs ls hP hS hl
  exact lv_icmp_lt hx hb d ht (fun h => kt h H locs ls hP hS hl) (fun h => kf h H locs ls hP hS hl)
theorem m_if_ge (C : Cx G nL X cc own ret fr) {x : Int32} {off : Int} (tgt : Nat) (d : decode cc pc = .ok (.ifCond .ge off, 3)) (ht : (pc : Int) + off = (tgt : Int)) (kt : 0 ≤ x → Mq l G nL X Q tgt lv st mu nu) (kf : ¬ 0 ≤ x → Mq l G nL X Q (pc + 3) lv st mu nu) : Mq l G nL X Q pc lv (.int x :: st) mu nu := by
  obtain ⟨p, e, R, s, m, args, below, meth, c, cells, slots⟩ := X
  obtain ⟨hx, hb, hml, ho, hts, hK, hGS, hGN, hd, hr, hlk, hfr, hlo, hce, hsl⟩ := C
  intro H locs ls hP hS hl
  exact lv_if_ge hx hb d ht (fun h => kt h H locs ls hP hS hl) (fun h => kf h H locs ls hP hS hl)
theorem m_icmp_ge (C : Cx G nL X cc own ret fr) {x y : Int32} {off : Int} (tgt : Nat) (d : decode cc pc = .ok (.if_icmp .ge off, 3)) (ht : (pc : Int) + off = (tgt : Int)) (kt : y ≤ x → Mq l G nL X Q tgt lv st mu nu) (kf : ¬ y ≤ x → Mq l G nL X Q (pc + 3) lv st mu nu) : Mq l G nL X Q pc lv (.int y :: .int x :: st) mu nu := by
  obtain ⟨p, e, R, s, m, args, below, meth, c, cells, slots⟩ := X
  obtain ⟨hx, hb, hml, ho, hts, hK, hGS, hGN, hd, hr, hlk, hfr, hlo, hce, hsl⟩ := C
  intro H locs ls hP hS hl
  exact lv_icmp_ge hx hb d ht (fun h => kt h H locs ls hP hS hl) (fun h => kf h H locs ls hP hS hl)
theorem m_if_gt (C : Cx G nL X cc own ret fr) {x : Int32} {off : Int} (tgt : Nat) (d : decode cc pc = .ok (.ifCond .gt off, 3)) (ht : (pc : Int) + off = (tgt : Int)) (kt : 0 < x → Mq l G nL X Q tgt lv st mu nu) (kf : ¬ 0 < x → Mq l G nL X Q (pc + 3) lv st mu nu) : Mq l G nL X Q pc lv (.int x :: st) mu nu := by
  obtain ⟨p, e, R, s, m, args, below, meth, c, cells, slots⟩ := X
  obtain ⟨hx, hb, hml, ho, hts, hK, hGS, hGN, hd, hr, hlk, hfr, hlo, hce, hsl⟩ := C
  intro H locs ls hP hS hl
  exact lv_if_gt hx hb d ht (fun h => kt h H locs ls hP hS hl) (fun h => kf h H locs ls hP hS hl)
theorem m_icmp_gt (C : Cx G nL X cc own ret fr) {x y : Int32} {off : Int} (tgt : Nat) (d : decode cc pc = .ok (.if_icmp .gt off, 3)) (ht : (pc : Int) + off = (tgt : Int)) (kt : y < x → Mq l G nL X Q tgt lv st mu nu) (kf : ¬ y < x → Mq l G nL X Q (pc + 3) lv st mu nu) : Mq l G nL X Q pc lv (.int y :: .int x :: st) mu nu := by
  obtain ⟨p, e, R, s, m, args, below, meth, c, cells, slots⟩ := X
  obtain ⟨hx, hb, hml, ho, hts, hK, hGS, hGN, hd, hr, hlk, hfr, hlo, hce, hsl⟩ := C
  intro H locs ls hP hS hl
  exact lv_icmp_gt hx hb d ht (fun h => kt h H locs ls hP hS hl) (fun h => kf h H locs ls hP hS hl)
theorem m_if_le (C : Cx G nL X cc own ret fr) {x : Int32} {off : Int} (tgt : Nat) (d : decode cc pc = .ok (.ifCond .le off, 3)) (ht : (pc : Int) + off = (tgt : Int)) (kt : x ≤ 0 → Mq l G nL X Q tgt lv st mu nu) (kf : ¬ x ≤ 0 → Mq l G nL X Q (pc + 3) lv st mu nu) : Mq l G nL X Q pc lv (.int x :: st) mu nu := by
  obtain ⟨p, e, R, s, m, args, below, meth, c, cells, slots⟩ := X
  obtain ⟨hx, hb, hml, ho, hts, hK, hGS, hGN, hd, hr, hlk, hfr, hlo, hce, hsl⟩ := C
  intro H locs ls hP hS hl
  exact lv_if_le hx hb d ht (fun h => kt h H locs ls hP hS hl) (fun h => kf h H locs ls hP hS hl)
theorem m_icmp_le (C : Cx G nL X cc own ret fr) {x y : Int32} {off : Int} (tgt : Nat) (d : decode cc pc = .ok (.if_icmp .le off, 3)) (ht : (pc : Int) + off = (tgt : Int)) (kt : x ≤ y → Mq l G nL X Q tgt lv st mu nu) (kf : ¬ x ≤ y → Mq l G nL X Q (pc + 3) lv st mu nu) : Mq l G nL X Q pc lv (.int y :: .int x :: st) mu nu := by
  obtain ⟨p, e, R, s, m, args, below, meth, c, cells, slots⟩ := X
  obtain ⟨hx, hb, hml, ho, hts, hK, hGS, hGN, hd, hr, hlk, hfr, hlo, hce, hsl⟩ := C
  intro H locs ls hP hS hl
  exact lv_icmp_le hx hb d ht (fun h => kt h H locs ls hP hS hl) (fun h => kf h H locs ls hP hS hl)
theorem m_tblIn (C : Cx G nL X cc own ret fr) {dflt lo hi : Int} {offs : Array Int} {len : Nat} {x : Int32} {off : Int} (tgt : Nat) (d : decode cc pc = .ok (.tableswitch dflt lo hi offs, len)) (h1 : ¬ x.toInt < lo) (h2 : ¬ hi < x.toInt) (hoff : offs[(x.toInt - lo).toNat]? = some off) (ht : (pc : Int) + off = (tgt : Int)) (kk : Mq l G nL X Q tgt lv st mu nu) : Mq l G nL X Q pc lv (.int x :: st) mu nu := by
  obtain ⟨p, e, R, s, m, args, below, meth, c, cells, slots⟩ := X
  obtain ⟨hx, hb, hml, ho, hts, hK, hGS, hGN, hd, hr, hlk, hfr, hlo, hce, hsl⟩ := C
  intro H locs ls hP hS hl
  exact lv_tableIn hx hb d h1 h2 hoff ht (kk H locs ls hP hS hl)
theorem m_tblOut (C : Cx G nL X cc own ret fr) {dflt lo hi : Int} {offs : Array Int} {len : Nat} {x : Int32} (tgt : Nat) (d : decode cc pc = .ok (.tableswitch dflt lo hi offs, len)) (h : x.toInt < lo ∨ hi < x.toInt) (ht : (pc : Int) + dflt = (tgt : Int)) (kk : Mq l G nL X Q tgt lv st mu nu) : Mq l G nL X Q pc lv (.int x :: st) mu nu := by
  obtain ⟨p, e, R, s, m, args, below, meth, c, cells, slots⟩ := X
  obtain ⟨hx, hb, hml, ho, hts, hK, hGS, hGN, hd, hr, hlk, hfr, hlo, hce, hsl⟩ := C
  intro H locs ls hP hS hl
  exact lv_tableOut hx hb d h ht (kk H locs ls hP hS hl)
theorem m_sub (ks : List Nat) {lw : List (Nat × Value)} (h : lv_pick lv ks = lw) (kk : Mq l G nL X Q pc lw st mu nu) : Mq l G nL X Q pc lv st mu nu := by
  obtain ⟨p, e, R, s, m, args, below, meth, c, cells, slots⟩ := X
  intro H locs ls hP hS hl
  exact kk H locs ls hP hS (lv_sub hl ks h)
theorem m_topi {x : Int32} (y : Int32) (h : x = y) (kk : Mq l G nL X Q pc lv (.int y :: st) mu nu) : Mq l G nL X Q pc lv (.int x :: st) mu nu := by rw [h]; exact kk
theorem m_topl {x : Int64} (y : Int64) (h : x = y) (kk : Mq l G nL X Q pc lv (.long y :: st) mu nu) : Mq l G nL X Q pc lv (.long x :: st) mu nu := by rw [h]; exact kk
theorem m_mem {mu2 : Mu} {nu2 : Nu} (hm : mu = mu2) (hn : nu = nu2) (kk : Mq l G nL X Q pc lv st mu2 nu2) : Mq l G nL X Q pc lv st mu nu := by rw [hm, hn]; exact kk
theorem m_nameM (kk : ∀ mu2 : Mu, mu2 = mu → Mq l G nL X Q pc lv st mu2 nu) : Mq l G nL X Q pc lv st mu nu := kk mu rfl
theorem m_iret {post : Option Value → Mu → Nu → Prop} (C : Cx G nL X cc own (some .int) fr) {v : Int32} (d : decode cc pc = .ok (.ireturn, 1)) (hp : post (some (.int v)) mu nu) : Mq l G nL X (g_E G X post) pc lv [.int v] mu nu := by
  obtain ⟨p, e, R, s, m, args, below, meth, c, cells, slots⟩ := X
  obtain ⟨hx, hb, hml, ho, hts, hK, hGS, hGN, hd, hr, hlk, hfr, hlo, hce, hsl⟩ := C
  intro H locs ls hP hS hl
  exact W.iret hx hb hr (fun t ht hW => ⟨⟨_, mu, nu, rfl, hp, by rw [ht]; exact hP⟩, hS.F ht⟩) hS.2.2 d hlk
theorem m_lret {post : Option Value → Mu → Nu → Prop} (C : Cx G nL X cc own (some .long) fr) {v : Int64} (d : decode cc pc = .ok (.lreturn, 1)) (hp : post (some (.long v)) mu nu) : Mq l G nL X (g_E G X post) pc lv [.long v] mu nu := by
  obtain ⟨p, e, R, s, m, args, below, meth, c, cells, slots⟩ := X
  obtain ⟨hx, hb, hml, ho, hts, hK, hGS, hGN, hd, hr, hlk, hfr, hlo, hce, hsl⟩ := C
  intro H locs ls hP hS hl
  exact W.lret hx hb hr (fun t ht hW => ⟨⟨_, mu, nu, rfl, hp, by rw [ht]; exact hP⟩, hS.F ht⟩) hS.2.2 d hlk
theorem m_zret {post : Option Value → Mu → Nu → Prop} (C : Cx G nL X cc own (some .boolean) fr) {v : Int32} (hn : narrow .boolean (.int v) = .int v) (d : decode cc pc = .ok (.ireturn, 1)) (hp : post (some (.int v)) mu nu) : Mq l G nL X (g_E G X post) pc lv [.int v] mu nu := by
  obtain ⟨p, e, R, s, m, args, below, meth, c, cells, slots⟩ := X
  obtain ⟨hx, hb, hml, ho, hts, hK, hGS, hGN, hd, hr, hlk, hfr, hlo, hce, hsl⟩ := C
  intro H locs ls hP hS hl
  exact W.zret hx hb hr hn (fun t ht hW => ⟨⟨_, mu, nu, rfl, hp, by rw [ht]; exact hP⟩, hS.F ht⟩) hS.2.2 d hlk
theorem m_vret {post : Option Value → Mu → Nu → Prop} (C : Cx G nL X cc own none fr) (d : decode cc pc = .ok (.return_, 1)) (hp : post none mu nu) : Mq l G nL X (g_E G X post) pc lv [] mu nu := by
  obtain ⟨p, e, R, s, m, args, below, meth, c, cells, slots⟩ := X
  obtain ⟨hx, hb, hml, ho, hts, hK, hGS, hGN, hd, hr, hlk, hfr, hlo, hce, hsl⟩ := C
  intro H locs ls hP hS hl
  exact W.vret hx hb hr (fun t ht hW => ⟨⟨_, mu, nu, rfl, hp, by rw [ht]; exact hP⟩, hS.F ht⟩) hS.2.2 d hlk
theorem m_get (C : Cx G nL X cc own ret fr) {cls : String} {T : u_T} {N ci index : Nat} {fs : List Value} (q0 : Nat) (hq : q0 < 79) (he : g_sh G q0 (mu q0) (nu q0) = .inr (ci, fs)) (hc : vwCl[ci]? = some (cls, T, N)) (hin : ∀ w ∈ u_ws cls T N, w ∈ twl) (k : Nat) (hk : k < N) (hcl : (T k).1 = cls) (hlink : Cond.fieldLink own index cls (T k).2.1 (T k).2.2.1 ∈ twl) {v : Value} (hv : fs[k]? = some v) (d : decode cc pc = .ok (.getfield index, 3)) (kk : Mq l G nL X Q (pc + 3) lv (v :: st) mu nu) : Mq l G nL X Q pc lv (.ref (G.1 q0) :: st) mu nu := by
  obtain ⟨p, e, R, s, m, args, below, meth, c, cells, slots⟩ := X
  obtain ⟨hx, hb, hml, ho, hts, hK, hGS, hGN, hd, hr, hlk, hfr, hlo, hce, hsl⟩ := C
  intro H locs ls hP hS hl
  exact va_get hx hb hts hin ho hK hP q0 (g_atE hq he) hc k hk (hts _ hlink) (fun x h => by rw [← hcl]; exact h) hv d (kk H locs ls hP hS hl)
theorem m_putI (C : Cx G nL X cc own ret fr) {cls : String} {T : u_T} {N ci index : Nat} {fs : List Value} (q0 : Nat) (hq : q0 < 79) (he : g_sh G q0 (mu q0) (nu q0) = .inr (ci, fs)) (hc : vwCl[ci]? = some (cls, T, N)) (hin : ∀ w ∈ u_ws cls T N, w ∈ twl) (k : Nat) (hk : k < N) (hcl : (T k).1 = cls) (hlink : Cond.fieldLink own index cls (T k).2.1 (T k).2.2.1 ∈ twl)  (x : Int32) (ty0 : Nat → FieldType) (hty : ∀ k, k < N → parseFieldDescriptor (T k).2.2.1 = some (ty0 k)) (hnm : ∀ a, a < N → ∀ b, b < N → a ≠ b → (T a).2.1 ≠ (T b).2.1) (hfin : (T k).2.2.2 = false) {ty : FieldType} {v : Value} (hd2 : parseFieldDescriptor (T k).2.2.1 = some ty) (hn : narrow ty v = v) (hfit : fits ty v = true) (hlen : k < fs.length) (he2 : g_sh G q0 (upd (mu q0) k x) (nu q0) = .inr (ci, fs.set k v)) (d : decode cc pc = .ok (.putfield index, 3)) (kk : Mq l G nL X Q (pc + 3) lv st (mu_up mu q0 k x) nu) : Mq l G nL X Q pc lv (v :: .ref (G.1 q0) :: st) mu nu := by
  obtain ⟨p, e, R, s, m, args, below, meth, c, cells, slots⟩ := X
  obtain ⟨hx, hb, hml, ho, hts, hK, hGS, hGN, hd, hr, hlk, hfr, hlo, hce, hsl⟩ := C
  intro H locs ls hP hS hl
  exact va_put hx hb hts hin ty0 hty hnm ho hK hP (g_D hd mu nu) hS q0 (g_atE hq he) hc k hk (hts _ hlink) (fun x h => by rw [← hcl]; exact h) hfin hd2 hn hfit hlen d (fun H1 locs1 hP1 _ hS1 => kk H1 locs1 ls (by rw [g_setM hq he2] at hP1; exact hP1) hS1 hl)
theorem m_putL (C : Cx G nL X cc own ret fr) {cls : String} {T : u_T} {N ci index : Nat} {fs : List Value} (q0 : Nat) (hq : q0 < 79) (he : g_sh G q0 (mu q0) (nu q0) = .inr (ci, fs)) (hc : vwCl[ci]? = some (cls, T, N)) (hin : ∀ w ∈ u_ws cls T N, w ∈ twl) (k : Nat) (hk : k < N) (hcl : (T k).1 = cls) (hlink : Cond.fieldLink own index cls (T k).2.1 (T k).2.2.1 ∈ twl)  (x : Int64) (ty0 : Nat → FieldType) (hty : ∀ k, k < N → parseFieldDescriptor (T k).2.2.1 = some (ty0 k)) (hnm : ∀ a, a < N → ∀ b, b < N → a ≠ b → (T a).2.1 ≠ (T b).2.1) (hfin : (T k).2.2.2 = false) {ty : FieldType} {v : Value} (hd2 : parseFieldDescriptor (T k).2.2.1 = some ty) (hn : narrow ty v = v) (hfit : fits ty v = true) (hlen : k < fs.length) (he2 : g_sh G q0 (mu q0) (vp_updL (nu q0) k x) = .inr (ci, fs.set k v)) (d : decode cc pc = .ok (.putfield index, 3)) (kk : Mq l G nL X Q (pc + 3) lv st mu (nu_up nu q0 k x)) : Mq l G nL X Q pc lv (v :: .ref (G.1 q0) :: st) mu nu := by
  obtain ⟨p, e, R, s, m, args, below, meth, c, cells, slots⟩ := X
  obtain ⟨hx, hb, hml, ho, hts, hK, hGS, hGN, hd, hr, hlk, hfr, hlo, hce, hsl⟩ := C
  intro H locs ls hP hS hl
  exact va_put hx hb hts hin ty0 hty hnm ho hK hP (g_D hd mu nu) hS q0 (g_atE hq he) hc k hk (hts _ hlink) (fun x h => by rw [← hcl]; exact h) hfin hd2 hn hfit hlen d (fun H1 locs1 hP1 _ hS1 => kk H1 locs1 ls (by rw [g_setN hq he2] at hP1; exact hP1) hS1 hl)
theorem m_getN (C : Cx G nL X cc own ret fr) {cls : String} {T : u_T} {N ci index : Nat} {fs : List Value} (q0 : Nat) (hq : q0 < 79) (he : g_sh G q0 (mu q0) (nu q0) = .inr (ci, fs)) (hc : vwCl[ci]? = some (cls, T, N)) (hin : ∀ w ∈ u_ws cls T N, w ∈ twl) (k : Nat) (hk : k < N) (hcl : (T k).1 = cls) {host : String} (hlink : Cond.fieldLinkNest own index cls (T k).2.1 (T k).2.2.1 host ∈ nwl) {v : Value} (hv : fs[k]? = some v) (d : decode cc pc = .ok (.getfield index, 3)) (kk : Mq l G nL X Q (pc + 3) lv (v :: st) mu nu) : Mq l G nL X Q pc lv (.ref (G.1 q0) :: st) mu nu := by
  obtain ⟨p, e, R, s, m, args, below, meth, c, cells, slots⟩ := X
  obtain ⟨hx, hb, hml, ho, hts, hK, hGS, hGN, hd, hr, hlk, hfr, hlo, hce, hsl⟩ := C
  intro H locs ls hP hS hl
  exact va_getN hx hb hts hin ho hK hP q0 (g_atE hq he) hc k hk (va_Nw.use rfl (hGN.1 _ hlink)) (fun x h => by rw [← hcl]; exact h) hv d (kk H locs ls hP hS hl)
theorem m_putIN (C : Cx G nL X cc own ret fr) {cls : String} {T : u_T} {N ci index : Nat} {fs : List Value} (q0 : Nat) (hq : q0 < 79) (he : g_sh G q0 (mu q0) (nu q0) = .inr (ci, fs)) (hc : vwCl[ci]? = some (cls, T, N)) (hin : ∀ w ∈ u_ws cls T N, w ∈ twl) (k : Nat) (hk : k < N) (hcl : (T k).1 = cls) {host : String} (hlink : Cond.fieldLinkNest own index cls (T k).2.1 (T k).2.2.1 host ∈ nwl)  (x : Int32) (ty0 : Nat → FieldType) (hty : ∀ k, k < N → parseFieldDescriptor (T k).2.2.1 = some (ty0 k)) (hnm : ∀ a, a < N → ∀ b, b < N → a ≠ b → (T a).2.1 ≠ (T b).2.1) (hfin : (T k).2.2.2 = false) {ty : FieldType} {v : Value} (hd2 : parseFieldDescriptor (T k).2.2.1 = some ty) (hn : narrow ty v = v) (hfit : fits ty v = true) (hlen : k < fs.length) (he2 : g_sh G q0 (upd (mu q0) k x) (nu q0) = .inr (ci, fs.set k v)) (d : decode cc pc = .ok (.putfield index, 3)) (kk : Mq l G nL X Q (pc + 3) lv st (mu_up mu q0 k x) nu) : Mq l G nL X Q pc lv (v :: .ref (G.1 q0) :: st) mu nu := by
  obtain ⟨p, e, R, s, m, args, below, meth, c, cells, slots⟩ := X
  obtain ⟨hx, hb, hml, ho, hts, hK, hGS, hGN, hd, hr, hlk, hfr, hlo, hce, hsl⟩ := C
  intro H locs ls hP hS hl
  exact va_putN hx hb hts hin ty0 hty hnm ho hK hP (g_D hd mu nu) hS q0 (g_atE hq he) hc k hk (va_Nw.use rfl (hGN.1 _ hlink)) (fun x h => by rw [← hcl]; exact h) hfin hd2 hn hfit hlen d (fun H1 locs1 hP1 _ hS1 => kk H1 locs1 ls (by rw [g_setM hq he2] at hP1; exact hP1) hS1 hl)
theorem m_putLN (C : Cx G nL X cc own ret fr) {cls : String} {T : u_T} {N ci index : Nat} {fs : List Value} (q0 : Nat) (hq : q0 < 79) (he : g_sh G q0 (mu q0) (nu q0) = .inr (ci, fs)) (hc : vwCl[ci]? = some (cls, T, N)) (hin : ∀ w ∈ u_ws cls T N, w ∈ twl) (k : Nat) (hk : k < N) (hcl : (T k).1 = cls) {host : String} (hlink : Cond.fieldLinkNest own index cls (T k).2.1 (T k).2.2.1 host ∈ nwl)  (x : Int64) (ty0 : Nat → FieldType) (hty : ∀ k, k < N → parseFieldDescriptor (T k).2.2.1 = some (ty0 k)) (hnm : ∀ a, a < N → ∀ b, b < N → a ≠ b → (T a).2.1 ≠ (T b).2.1) (hfin : (T k).2.2.2 = false) {ty : FieldType} {v : Value} (hd2 : parseFieldDescriptor (T k).2.2.1 = some ty) (hn : narrow ty v = v) (hfit : fits ty v = true) (hlen : k < fs.length) (he2 : g_sh G q0 (mu q0) (vp_updL (nu q0) k x) = .inr (ci, fs.set k v)) (d : decode cc pc = .ok (.putfield index, 3)) (kk : Mq l G nL X Q (pc + 3) lv st mu (nu_up nu q0 k x)) : Mq l G nL X Q pc lv (v :: .ref (G.1 q0) :: st) mu nu := by
  obtain ⟨p, e, R, s, m, args, below, meth, c, cells, slots⟩ := X
  obtain ⟨hx, hb, hml, ho, hts, hK, hGS, hGN, hd, hr, hlk, hfr, hlo, hce, hsl⟩ := C
  intro H locs ls hP hS hl
  exact va_putN hx hb hts hin ty0 hty hnm ho hK hP (g_D hd mu nu) hS q0 (g_atE hq he) hc k hk (va_Nw.use rfl (hGN.1 _ hlink)) (fun x h => by rw [← hcl]; exact h) hfin hd2 hn hfit hlen d (fun H1 locs1 hP1 _ hS1 => kk H1 locs1 ls (by rw [g_setN hq he2] at hP1; exact hP1) hS1 hl)
theorem m_iald (C : Cx G nL X cc own ret fr) {n : Nat} (q0 : Nat) (hq : q0 < 79) (he : ∀ f g, g_sh G q0 f g = g_ia G n f) {i : Int32} (p0 : Nat) (hi : i = nI p0) (hp : p0 < n) (hn : n < 2 ^ 31) (d : decode cc pc = .ok (.iaload, 1)) (kk : Mq l G nL X Q (pc + 1) lv (.int (mu q0 p0) :: st) mu nu) : Mq l G nL X Q pc lv (.int i :: .ref (G.1 q0) :: st) mu nu := by
  obtain ⟨p, e, R, s, m, args, below, meth, c, cells, slots⟩ := X
  obtain ⟨hx, hb, hml, ho, hts, hK, hGS, hGN, hd, hr, hlk, hfr, hlo, hce, hsl⟩ := C
  intro H locs ls hP hS hl
  exact by
    subst hi
    refine va_iald hx hb hK hP q0 0 (g_atE hq (he _ _)) rfl (vp_in_nI hp hn) d ?_
    rw [nI_clamp (by omega)]
    exact (kk H locs ls hP hS hl)
theorem m_iast (C : Cx G nL X cc own ret fr) {n : Nat} (q0 : Nat) (hq : q0 < 79) (he : ∀ f g, g_sh G q0 f g = g_ia G n f) {i x : Int32} (p0 : Nat) (hi : i = nI p0) (hp : p0 < n) (hn : n < 2 ^ 31) (d : decode cc pc = .ok (.iastore, 1)) (kk : Mq l G nL X Q (pc + 1) lv st (mu_up mu q0 p0 x) nu) : Mq l G nL X Q pc lv (.int x :: .int i :: .ref (G.1 q0) :: st) mu nu := by
  obtain ⟨p, e, R, s, m, args, below, meth, c, cells, slots⟩ := X
  obtain ⟨hx, hb, hml, ho, hts, hK, hGS, hGN, hd, hr, hlk, hfr, hlo, hce, hsl⟩ := C
  intro H locs ls hP hS hl
  subst hi
  refine va_iast hx hb hK hP (g_D hd mu nu) hS q0 0 (g_atE hq (he _ _)) rfl (vp_in_nI hp hn) d (fun H1 locs1 hP1 _ hS1 => kk H1 locs1 ls ?_ hS1 hl)
  rw [nI_clamp (by omega), g_setM hq (he _ _)] at hP1
  exact hP1
theorem m_aald (C : Cx G nL X cc own ret fr) {n : Nat} (q0 : Nat) (hq : q0 < 79) (t0 : Nat) {rf : Nat → Option Nat} {cn : String} (ht : (g_tys G)[t0]? = some (G.2.2.1 t0, .object cn)) (he : ∀ f g, g_sh G q0 f g = g_ra G t0 n rf) {i : Int32} (p0 a : Nat) (hi : i = nI p0) (hp : p0 < n) (hn : n < 2 ^ 31) (ha : rf p0 = some a) (d : decode cc pc = .ok (.aaload, 1)) (kk : Mq l G nL X Q (pc + 1) lv (.ref a :: st) mu nu) : Mq l G nL X Q pc lv (.int i :: .ref (G.1 q0) :: st) mu nu := by
  obtain ⟨p, e, R, s, m, args, below, meth, c, cells, slots⟩ := X
  obtain ⟨hx, hb, hml, ho, hts, hK, hGS, hGN, hd, hr, hlk, hfr, hlo, hce, hsl⟩ := C
  intro H locs ls hP hS hl
  exact by
    subst hi
    refine va_aldq hx hb hK hP q0 t0 (g_atE hq (he _ _)) ht (vp_in_nI hp hn) d ?_
    rw [nI_clamp (by omega), ha]
    exact (kk H locs ls hP hS hl)
theorem m_alenI (C : Cx G nL X cc own ret fr) {n : Nat} (q0 : Nat) (hq : q0 < 79) (he : ∀ f g, g_sh G q0 f g = g_ia G n f) (d : decode cc pc = .ok (.arraylength, 1)) (kk : Mq l G nL X Q (pc + 1) lv (.int (nI n) :: st) mu nu) : Mq l G nL X Q pc lv (.ref (G.1 q0) :: st) mu nu := by
  obtain ⟨p, e, R, s, m, args, below, meth, c, cells, slots⟩ := X
  obtain ⟨hx, hb, hml, ho, hts, hK, hGS, hGN, hd, hr, hlk, hfr, hlo, hce, hsl⟩ := C
  intro H locs ls hP hS hl
  exact va_alen hx hb hK hP q0 0 (g_atE hq (he _ _)) rfl rfl d (kk H locs ls hP hS hl)
theorem m_alenR (C : Cx G nL X cc own ret fr) {n : Nat} (q0 : Nat) (hq : q0 < 79) (t0 : Nat) {rf : Nat → Option Nat} {cn : String} (ht : (g_tys G)[t0]? = some (G.2.2.1 t0, .object cn)) (he : ∀ f g, g_sh G q0 f g = g_ra G t0 n rf) (d : decode cc pc = .ok (.arraylength, 1)) (kk : Mq l G nL X Q (pc + 1) lv (.int (nI n) :: st) mu nu) : Mq l G nL X Q pc lv (.ref (G.1 q0) :: st) mu nu := by
  obtain ⟨p, e, R, s, m, args, below, meth, c, cells, slots⟩ := X
  obtain ⟨hx, hb, hml, ho, hts, hK, hGS, hGN, hd, hr, hlk, hfr, hlo, hce, hsl⟩ := C
  intro H locs ls hP hS hl
  exact va_alen hx hb hK hP q0 t0 (g_atE hq (he _ _)) ht rfl d (kk H locs ls hP hS hl)
theorem m_letters (C : Cx G nL X cc own ret fr) {index : Nat} (hlink : Cond.fieldLink own index RX10 "LETTERS" "[I" ∈ twl) (d : decode cc pc = .ok (.getstatic index, 3)) (kk : Mq l G nL X Q (pc + 3) lv (.ref G.2.2.2.1 :: st) mu nu) : Mq l G nL X Q pc lv st mu nu := by
  obtain ⟨p, e, R, s, m, args, below, meth, c, cells, slots⟩ := X
  obtain ⟨hx, hb, hml, ho, hts, hK, hGS, hGN, hd, hr, hlk, hfr, hlo, hce, hsl⟩ := C
  intro H locs ls hP hS hl
  exact va_gets hx hb hGS.1.1 hS ho (hts _ hlink) (fun _ h => h) d (kk H locs ls hP hS hl)
theorem m_tens (C : Cx G nL X cc own ret fr) {index : Nat} {host : String} (hlink : Cond.fieldLinkNest own index RX10 "TENS" "[I" host ∈ nwl) (d : decode cc pc = .ok (.getstatic index, 3)) (kk : Mq l G nL X Q (pc + 3) lv (.ref G.2.2.2.2 :: st) mu nu) : Mq l G nL X Q pc lv st mu nu := by
  obtain ⟨p, e, R, s, m, args, below, meth, c, cells, slots⟩ := X
  obtain ⟨hx, hb, hml, ho, hts, hK, hGS, hGN, hd, hr, hlk, hfr, hlo, hce, hsl⟩ := C
  intro H locs ls hP hS hl
  exact va_getsN hx hb hGS.2.1 hS ho (va_Nw.use rfl (hGN.1 _ hlink)) (fun _ h => h) d (kk H locs ls hP hS hl)
theorem m_letAt (C : Cx G nL X cc own ret fr) {i : Int32} (p0 : Nat) (hi : i = nI p0) (hp : p0 < 6) (d : decode cc pc = .ok (.iaload, 1)) (kk : Mq l G nL X Q (pc + 1) lv (.int (t_let p0) :: st) mu nu) : Mq l G nL X Q pc lv (.int i :: .ref G.2.2.2.1 :: st) mu nu := by
  obtain ⟨p, e, R, s, m, args, below, meth, c, cells, slots⟩ := X
  obtain ⟨hx, hb, hml, ho, hts, hK, hGS, hGN, hd, hr, hlk, hfr, hlo, hce, hsl⟩ := C
  intro H locs ls hP hS hl
  exact by
    subst hi
    exact va_ti hx hb hGS.1.2 hS (vp_in_nI hp (by decide)) (by rw [nI_clamp (by omega)]) d (kk H locs ls hP hS hl)
theorem m_tenAt (C : Cx G nL X cc own ret fr) {i : Int32} (p0 : Nat) (hi : i = nI p0) (hp : p0 < 8) (d : decode cc pc = .ok (.iaload, 1)) (kk : Mq l G nL X Q (pc + 1) lv (.int (nI (t_ten p0)) :: st) mu nu) : Mq l G nL X Q pc lv (.int i :: .ref G.2.2.2.2 :: st) mu nu := by
  obtain ⟨p, e, R, s, m, args, below, meth, c, cells, slots⟩ := X
  obtain ⟨hx, hb, hml, ho, hts, hK, hGS, hGN, hd, hr, hlk, hfr, hlo, hce, hsl⟩ := C
  intro H locs ls hP hS hl
  exact by
    subst hi
    exact va_ti hx hb hGS.2.2 hS (vp_in_nI hp (by decide)) (by rw [nI_clamp (by omega)]) d (kk H locs ls hP hS hl)
end
