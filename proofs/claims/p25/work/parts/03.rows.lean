section ROWS
variable {x : Ct} {cc : ByteArray} {nL cells slots pc : Nat} {own : String} {rm : Room} {w w' : Wv} {lv lv' : List (Nat × Value)} {st : List Value}
theorem Cx.hx (C : Cx x cc nL own rm) : x.1.tables.exec = Jvm.exec := C.1
theorem Cx.hb (C : Cx x cc nL own rm) : (xc x).code = cc := C.2.1
theorem Cx.hml (C : Cx x cc nL own rm) : (xc x).maxLocals = nL := C.2.2.1
theorem Cx.hown (C : Cx x cc nL own rm) : (xs x).vm.findClass own = some (xm x).cls := C.2.2.2.1
theorem Cx.hts (C : Cx x cc nL own rm) : ∀ u ∈ TT, u.before (xa x) (xs x) = true := C.2.2.2.2.1
theorem Cx.tk (C : Cx x cc nL own rm) : Tk (xG x) (xs x) := C.2.2.2.2.2.1
theorem Cx.hz (C : Cx x cc nL own rm) : gz (xG x) ≤ (xs x).heap.size := C.2.2.2.2.2.2.1
theorem Cx.hR (C : Cx x cc nL own rm) : xR x = rm := C.2.2.2.2.2.2.2.1
theorem Cx.hn (C : Cx x cc nL own rm) : xn x = nL := C.2.2.2.2.2.2.2.2
theorem r_iconst {n : Int} {v : Int32} (C : Cx x cc nL own rm) (d : decode cc pc = .ok (.iconst n, 1)) (hv : Int32.ofInt n = v) (k : V x cells slots w (pc + 1) lv (.int v :: st)) : V x cells slots w pc lv st :=
  fun H locs ls hW hS hl => lv_iconst C.hx C.hb d hv (k H locs ls hW hS hl)
theorem r_bipush {n : Int} {v : Int32} (C : Cx x cc nL own rm) (d : decode cc pc = .ok (.bipush n, 2)) (hv : (Int8.ofInt n).toInt32 = v) (k : V x cells slots w (pc + 2) lv (.int v :: st)) : V x cells slots w pc lv st :=
  fun H locs ls hW hS hl => lv_bipush C.hx C.hb d hv (k H locs ls hW hS hl)
theorem r_sipush {n : Int} {v : Int32} (C : Cx x cc nL own rm) (d : decode cc pc = .ok (.sipush n, 3)) (hv : (Int16.ofInt n).toInt32 = v) (k : V x cells slots w (pc + 3) lv (.int v :: st)) : V x cells slots w pc lv st :=
  fun H locs ls hW hS hl => lv_sipush C.hx C.hb d hv (k H locs ls hW hS hl)
theorem r_lconst {n : Fin 2} {v : Int64} (C : Cx x cc nL own rm) (d : decode cc pc = .ok (.lconst n, 1)) (hv : Int64.ofNat (n : Nat) = v) (k : V x cells slots w (pc + 1) lv (.long v :: st)) : V x cells slots w pc lv st :=
  fun H locs ls hW hS hl => lv_lconst C.hx C.hb d hv (k H locs ls hW hS hl)
theorem r_iload_n {k : Fin 4} {v : Int32} (j : Nat) (C : Cx x cc nL own rm) (d : decode cc pc = .ok (.iload_n k, 1)) (hj : lv[j]? = some ((k : Nat), .int v)) (k : V x cells slots w (pc + 1) lv (.int v :: st)) : V x cells slots w pc lv st :=
  fun H locs ls hW hS hl => lv_iload_n C.hx C.hb d rfl (lv_at hl j hj) (k H locs ls hW hS hl)
theorem r_iload {i : Nat} {v : Int32} (j : Nat) (C : Cx x cc nL own rm) (d : decode cc pc = .ok (.iload i, 2)) (hj : lv[j]? = some (i, .int v)) (k : V x cells slots w (pc + 2) lv (.int v :: st)) : V x cells slots w pc lv st :=
  fun H locs ls hW hS hl => lv_iload C.hx C.hb d (lv_at hl j hj) (k H locs ls hW hS hl)
theorem r_lload_n {k : Fin 4} {v : Int64} (j : Nat) (C : Cx x cc nL own rm) (d : decode cc pc = .ok (.lload_n k, 1)) (hj : lv[j]? = some ((k : Nat), .long v)) (k : V x cells slots w (pc + 1) lv (.long v :: st)) : V x cells slots w pc lv st :=
  fun H locs ls hW hS hl => lv_lload_n C.hx C.hb d rfl (lv_at hl j hj) (k H locs ls hW hS hl)
theorem r_lload {i : Nat} {v : Int64} (j : Nat) (C : Cx x cc nL own rm) (d : decode cc pc = .ok (.lload i, 2)) (hj : lv[j]? = some (i, .long v)) (k : V x cells slots w (pc + 2) lv (.long v :: st)) : V x cells slots w pc lv st :=
  fun H locs ls hW hS hl => lv_lload C.hx C.hb d (lv_at hl j hj) (k H locs ls hW hS hl)
theorem r_aload_n {k : Fin 4} {v : Nat} (j : Nat) (C : Cx x cc nL own rm) (d : decode cc pc = .ok (.aload_n k, 1)) (hj : lv[j]? = some ((k : Nat), .ref v)) (k : V x cells slots w (pc + 1) lv (.ref v :: st)) : V x cells slots w pc lv st :=
  fun H locs ls hW hS hl => lv_aload_n C.hx C.hb d rfl (lv_at hl j hj) (k H locs ls hW hS hl)
theorem r_aload {i : Nat} {v : Nat} (j : Nat) (C : Cx x cc nL own rm) (d : decode cc pc = .ok (.aload i, 2)) (hj : lv[j]? = some (i, .ref v)) (k : V x cells slots w (pc + 2) lv (.ref v :: st)) : V x cells slots w pc lv st :=
  fun H locs ls hW hS hl => lv_aload C.hx C.hb d (lv_at hl j hj) (k H locs ls hW hS hl)
theorem r_istore_n {k : Fin 4} {v : Int32} (lv' : List (Nat × Value)) (C : Cx x cc nL own rm) (d : decode cc pc = .ok (.istore_n k, 1)) (hn : (k : Nat) < nL) (hf : ((k : Nat), Value.int v) :: lv.filter (fun q => !(q.1 == (k : Nat)) && !(q.1 + 1 == (k : Nat) && q.2.category == 2)) = lv') (k : V x cells slots w (pc + 1) lv' st) : V x cells slots w pc lv (.int v :: st) :=
  fun H locs ls hW hS hl => lv_istore_n C.hx C.hb d rfl hl (by rw [C.hn]; exact hn) hf (fun ls hl => k H locs ls hW hS hl)
theorem r_istore {i : Nat} {v : Int32} (lv' : List (Nat × Value)) (C : Cx x cc nL own rm) (d : decode cc pc = .ok (.istore i, 2)) (hn : i < nL) (hf : (i, Value.int v) :: lv.filter (fun q => !(q.1 == i) && !(q.1 + 1 == i && q.2.category == 2)) = lv') (k : V x cells slots w (pc + 2) lv' st) : V x cells slots w pc lv (.int v :: st) :=
  fun H locs ls hW hS hl => lv_istore C.hx C.hb d hl (by rw [C.hn]; exact hn) hf (fun ls hl => k H locs ls hW hS hl)
theorem r_astore_n {k : Fin 4} {v : Nat} (lv' : List (Nat × Value)) (C : Cx x cc nL own rm) (d : decode cc pc = .ok (.astore_n k, 1)) (hn : (k : Nat) < nL) (hf : ((k : Nat), Value.ref v) :: lv.filter (fun q => !(q.1 == (k : Nat)) && !(q.1 + 1 == (k : Nat) && q.2.category == 2)) = lv') (k : V x cells slots w (pc + 1) lv' st) : V x cells slots w pc lv (.ref v :: st) :=
  fun H locs ls hW hS hl => lv_astore_n C.hx C.hb d rfl hl (by rw [C.hn]; exact hn) hf (fun ls hl => k H locs ls hW hS hl)
theorem r_astore {i : Nat} {v : Nat} (lv' : List (Nat × Value)) (C : Cx x cc nL own rm) (d : decode cc pc = .ok (.astore i, 2)) (hn : i < nL) (hf : (i, Value.ref v) :: lv.filter (fun q => !(q.1 == i) && !(q.1 + 1 == i && q.2.category == 2)) = lv') (k : V x cells slots w (pc + 2) lv' st) : V x cells slots w pc lv (.ref v :: st) :=
  fun H locs ls hW hS hl => lv_astore C.hx C.hb d hl (by rw [C.hn]; exact hn) hf (fun ls hl => k H locs ls hW hS hl)
theorem r_lstore_n {k : Fin 4} {v : Int64} (lv' : List (Nat × Value)) (C : Cx x cc nL own rm) (d : decode cc pc = .ok (.lstore_n k, 1)) (hn : (k : Nat) + 1 < nL) (hf : ((k : Nat), Value.long v) :: lv.filter (fun q => !(q.1 == (k : Nat)) && (!(q.1 == (k : Nat) + 1) && !(q.1 + 1 == (k : Nat) && q.2.category == 2))) = lv') (k : V x cells slots w (pc + 1) lv' st) : V x cells slots w pc lv (.long v :: st) :=
  fun H locs ls hW hS hl => lv_lstore_n C.hx C.hb d rfl hl (by rw [C.hn]; exact hn) hf (fun ls hl => k H locs ls hW hS hl)
theorem r_lstore {i : Nat} {v : Int64} (lv' : List (Nat × Value)) (C : Cx x cc nL own rm) (d : decode cc pc = .ok (.lstore i, 2)) (hn : i + 1 < nL) (hf : (i, Value.long v) :: lv.filter (fun q => !(q.1 == i) && (!(q.1 == i + 1) && !(q.1 + 1 == i && q.2.category == 2))) = lv') (k : V x cells slots w (pc + 2) lv' st) : V x cells slots w pc lv (.long v :: st) :=
  fun H locs ls hW hS hl => lv_lstore C.hx C.hb d hl (by rw [C.hn]; exact hn) hf (fun ls hl => k H locs ls hW hS hl)
theorem r_iinc {i : Nat} {n : Int} {y v : Int32} (lv' : List (Nat × Value)) (j : Nat) (C : Cx x cc nL own rm) (d : decode cc pc = .ok (.iinc i n, 3)) (hj : lv[j]? = some (i, .int y)) (hv : y + Int32.ofInt n = v) (hn : i < nL) (hf : (i, Value.int v) :: lv.filter (fun q => !(q.1 == i) && !(q.1 + 1 == i && q.2.category == 2)) = lv') (k : V x cells slots w (pc + 3) lv' st) : V x cells slots w pc lv st :=
  fun H locs ls hW hS hl => lv_iinc C.hx C.hb d hl hj hv (by rw [C.hn]; exact hn) hf (fun ls hl => k H locs ls hW hS hl)
theorem r_iadd {a b : Int32} (C : Cx x cc nL own rm) (d : decode cc pc = .ok (.iadd, 1)) (k : ∀ v : Int32, v = a + b → V x cells slots w (pc + 1) lv (.int v :: st)) : V x cells slots w pc lv (.int b :: .int a :: st) :=
  fun H locs ls hW hS hl => lv_iadd C.hx C.hb d (k _ rfl H locs ls hW hS hl)
theorem r_isub {a b : Int32} (C : Cx x cc nL own rm) (d : decode cc pc = .ok (.isub, 1)) (k : ∀ v : Int32, v = a - b → V x cells slots w (pc + 1) lv (.int v :: st)) : V x cells slots w pc lv (.int b :: .int a :: st) :=
  fun H locs ls hW hS hl => lv_isub C.hx C.hb d (k _ rfl H locs ls hW hS hl)
theorem r_imul {a b : Int32} (C : Cx x cc nL own rm) (d : decode cc pc = .ok (.imul, 1)) (k : ∀ v : Int32, v = a * b → V x cells slots w (pc + 1) lv (.int v :: st)) : V x cells slots w pc lv (.int b :: .int a :: st) :=
  fun H locs ls hW hS hl => lv_imul C.hx C.hb d (k _ rfl H locs ls hW hS hl)
theorem r_iand {a b : Int32} (C : Cx x cc nL own rm) (d : decode cc pc = .ok (.iand, 1)) (k : ∀ v : Int32, v = a &&& b → V x cells slots w (pc + 1) lv (.int v :: st)) : V x cells slots w pc lv (.int b :: .int a :: st) :=
  fun H locs ls hW hS hl => lv_iand C.hx C.hb d (k _ rfl H locs ls hW hS hl)
theorem r_ior {a b : Int32} (C : Cx x cc nL own rm) (d : decode cc pc = .ok (.ior, 1)) (k : ∀ v : Int32, v = a ||| b → V x cells slots w (pc + 1) lv (.int v :: st)) : V x cells slots w pc lv (.int b :: .int a :: st) :=
  fun H locs ls hW hS hl => lv_ior C.hx C.hb d (k _ rfl H locs ls hW hS hl)
theorem r_idiv {a b : Int32} (C : Cx x cc nL own rm) (d : decode cc pc = .ok (.idiv, 1)) (hne : ¬ b = 0) (k : ∀ v : Int32, v = a / b → V x cells slots w (pc + 1) lv (.int v :: st)) : V x cells slots w pc lv (.int b :: .int a :: st) :=
  fun H locs ls hW hS hl => lv_idiv C.hx C.hb d hne (k _ rfl H locs ls hW hS hl)
theorem r_irem {a b : Int32} (C : Cx x cc nL own rm) (d : decode cc pc = .ok (.irem, 1)) (hne : ¬ b = 0) (k : ∀ v : Int32, v = a - a / b * b → V x cells slots w (pc + 1) lv (.int v :: st)) : V x cells slots w pc lv (.int b :: .int a :: st) :=
  fun H locs ls hW hS hl => lv_irem C.hx C.hb d hne (k _ rfl H locs ls hW hS hl)
theorem r_ladd {a b : Int64} (C : Cx x cc nL own rm) (d : decode cc pc = .ok (.ladd, 1)) (k : ∀ v : Int64, v = a + b → V x cells slots w (pc + 1) lv (.long v :: st)) : V x cells slots w pc lv (.long b :: .long a :: st) :=
  fun H locs ls hW hS hl => lv_ladd C.hx C.hb d (k _ rfl H locs ls hW hS hl)
theorem r_lsub {a b : Int64} (C : Cx x cc nL own rm) (d : decode cc pc = .ok (.lsub, 1)) (k : ∀ v : Int64, v = a - b → V x cells slots w (pc + 1) lv (.long v :: st)) : V x cells slots w pc lv (.long b :: .long a :: st) :=
  fun H locs ls hW hS hl => lv_lsub C.hx C.hb d (k _ rfl H locs ls hW hS hl)
theorem r_lmul {a b : Int64} (C : Cx x cc nL own rm) (d : decode cc pc = .ok (.lmul, 1)) (k : ∀ v : Int64, v = a * b → V x cells slots w (pc + 1) lv (.long v :: st)) : V x cells slots w pc lv (.long b :: .long a :: st) :=
  fun H locs ls hW hS hl => lv_lmul C.hx C.hb d (k _ rfl H locs ls hW hS hl)
theorem r_land {a b : Int64} (C : Cx x cc nL own rm) (d : decode cc pc = .ok (.land, 1)) (k : ∀ v : Int64, v = a &&& b → V x cells slots w (pc + 1) lv (.long v :: st)) : V x cells slots w pc lv (.long b :: .long a :: st) :=
  fun H locs ls hW hS hl => lv_land C.hx C.hb d (k _ rfl H locs ls hW hS hl)
theorem r_lor {a b : Int64} (C : Cx x cc nL own rm) (d : decode cc pc = .ok (.lor, 1)) (k : ∀ v : Int64, v = a ||| b → V x cells slots w (pc + 1) lv (.long v :: st)) : V x cells slots w pc lv (.long b :: .long a :: st) :=
  fun H locs ls hW hS hl => lv_lor C.hx C.hb d (k _ rfl H locs ls hW hS hl)
theorem r_lrem {a b : Int64} (C : Cx x cc nL own rm) (d : decode cc pc = .ok (.lrem, 1)) (hne : ¬ b = 0) (k : ∀ v : Int64, v = a - a / b * b → V x cells slots w (pc + 1) lv (.long v :: st)) : V x cells slots w pc lv (.long b :: .long a :: st) :=
  fun H locs ls hW hS hl => lv_lrem C.hx C.hb d hne (k _ rfl H locs ls hW hS hl)
theorem r_ishl {a b : Int32} (C : Cx x cc nL own rm) (d : decode cc pc = .ok (.ishl, 1)) (k : ∀ v : Int32, v = a <<< (b &&& 31) → V x cells slots w (pc + 1) lv (.int v :: st)) : V x cells slots w pc lv (.int b :: .int a :: st) :=
  fun H locs ls hW hS hl => lv_ishl C.hx C.hb d (k _ rfl H locs ls hW hS hl)
theorem r_ishr {a b : Int32} (C : Cx x cc nL own rm) (d : decode cc pc = .ok (.ishr, 1)) (k : ∀ v : Int32, v = a >>> (b &&& 31) → V x cells slots w (pc + 1) lv (.int v :: st)) : V x cells slots w pc lv (.int b :: .int a :: st) :=
  fun H locs ls hW hS hl => lv_ishr C.hx C.hb d (k _ rfl H locs ls hW hS hl)
theorem r_i2l {a : Int32} (C : Cx x cc nL own rm) (d : decode cc pc = .ok (.i2l, 1)) (k : ∀ v : Int64, v = a.toInt64 → V x cells slots w (pc + 1) lv (.long v :: st)) : V x cells slots w pc lv (.int a :: st) :=
  fun H locs ls hW hS hl => lv_i2l C.hx C.hb d rfl (k _ rfl H locs ls hW hS hl)
theorem r_l2i {a : Int64} (C : Cx x cc nL own rm) (d : decode cc pc = .ok (.l2i, 1)) (k : ∀ v : Int32, v = a.toInt32 → V x cells slots w (pc + 1) lv (.int v :: st)) : V x cells slots w pc lv (.long a :: st) :=
  fun H locs ls hW hS hl => lv_l2i C.hx C.hb d rfl (k _ rfl H locs ls hW hS hl)
theorem r_lushr {a : Int64} {b : Int32} (C : Cx x cc nL own rm) (d : decode cc pc = .ok (.lushr, 1)) (k : ∀ v : Int64, v = (a.toUInt64 >>> (b.toInt64.toUInt64 &&& Int64.toUInt64 63)).toInt64 → V x cells slots w (pc + 1) lv (.long v :: st)) : V x cells slots w pc lv (.int b :: .long a :: st) :=
  fun H locs ls hW hS hl => lv_lushr C.hx C.hb d rfl (k _ rfl H locs ls hW hS hl)
theorem r_lshl {a : Int64} {b : Int32} (C : Cx x cc nL own rm) (d : decode cc pc = .ok (.lshl, 1)) (k : ∀ v : Int64, v = a <<< (b.toInt64 &&& 63) → V x cells slots w (pc + 1) lv (.long v :: st)) : V x cells slots w pc lv (.int b :: .long a :: st) :=
  fun H locs ls hW hS hl => lv_lshl C.hx C.hb d rfl (k _ rfl H locs ls hW hS hl)
theorem r_lshr {a : Int64} {b : Int32} (C : Cx x cc nL own rm) (d : decode cc pc = .ok (.lshr, 1)) (k : ∀ v : Int64, v = a >>> (b.toInt64 &&& 63) → V x cells slots w (pc + 1) lv (.long v :: st)) : V x cells slots w pc lv (.int b :: .long a :: st) :=
  fun H locs ls hW hS hl => lv_lshr C.hx C.hb d rfl (k _ rfl H locs ls hW hS hl)
theorem r_lcmp {a b : Int64} (C : Cx x cc nL own rm) (d : decode cc pc = .ok (.lcmp, 1)) (k : ∀ v : Int32, v = lg_cmp a b → V x cells slots w (pc + 1) lv (.int v :: st)) : V x cells slots w pc lv (.long b :: .long a :: st) :=
  fun H locs ls hW hS hl => W.lcmp C.hx C.hb d (k _ rfl H locs ls hW hS hl)
theorem r_dup {va : Value} (C : Cx x cc nL own rm) (d : decode cc pc = .ok (.dup, 1)) (hc : va.category = 1) (k : V x cells slots w (pc + 1) lv (va :: va :: st)) : V x cells slots w pc lv (va :: st) :=
  fun H locs ls hW hS hl => lv_dup C.hx C.hb d hc (k H locs ls hW hS hl)
theorem r_pop {va : Value} (C : Cx x cc nL own rm) (d : decode cc pc = .ok (.pop, 1)) (hc : va.category = 1) (k : V x cells slots w (pc + 1) lv st) : V x cells slots w pc lv (va :: st) :=
  fun H locs ls hW hS hl => lv_pop C.hx C.hb d hc (k H locs ls hW hS hl)
theorem r_goto {off : Int} (tgt : Nat) (C : Cx x cc nL own rm) (d : decode cc pc = .ok (.goto off, 3)) (ht : (pc : Int) + off = (tgt : Int)) (k : V x cells slots w tgt lv st) : V x cells slots w pc lv st :=
  fun H locs ls hW hS hl => lv_goto C.hx C.hb d ht (k H locs ls hW hS hl)
theorem r_ldc {index : Nat} {v : Int32} (C : Cx x cc nL own rm) (hc : Cond.constant own index v ∈ TT) (d : decode cc pc = .ok (.ldc index, 2)) (k : V x cells slots w (pc + 2) lv (.int v :: st)) : V x cells slots w pc lv st :=
  fun H locs ls hW hS hl => lv_ldc C.hx C.hb C.hown (C.hts _ hc) d (k H locs ls hW hS hl)
theorem r_ldcw {index : Nat} {v : Int32} (C : Cx x cc nL own rm) (hc : Cond.constant own index v ∈ TT) (d : decode cc pc = .ok (.ldc_w index, 3)) (k : V x cells slots w (pc + 3) lv (.int v :: st)) : V x cells slots w pc lv st :=
  fun H locs ls hW hS hl => lv_ldcw C.hx C.hb C.hown (C.hts _ hc) d (k H locs ls hW hS hl)
theorem r_ldc2 {index : Nat} {v : Int64} (C : Cx x cc nL own rm) (hc : Cond.constantLong own index v ∈ TT) (d : decode cc pc = .ok (.ldc2_w index, 3)) (k : V x cells slots w (pc + 3) lv (.long v :: st)) : V x cells slots w pc lv st :=
  fun H locs ls hW hS hl => lv_ldc2 C.hx C.hb C.hown (C.hts _ hc) d (k H locs ls hW hS hl)
theorem r_tabOut {dflt lo hi : Int} {offs : Array Int} {len : Nat} {a : Int32} (tgt : Nat) (C : Cx x cc nL own rm) (d : decode cc pc = .ok (.tableswitch dflt lo hi offs, len)) (h : a.toInt < lo ∨ hi < a.toInt) (ht : (pc : Int) + dflt = (tgt : Int)) (k : V x cells slots w tgt lv st) : V x cells slots w pc lv (.int a :: st) :=
  fun H locs ls hW hS hl => lv_tableOut C.hx C.hb d h ht (k H locs ls hW hS hl)
theorem r_tabIn {dflt lo hi : Int} {offs : Array Int} {len : Nat} {a : Int32} {off : Int} (tgt : Nat) (C : Cx x cc nL own rm) (d : decode cc pc = .ok (.tableswitch dflt lo hi offs, len)) (h1 : ¬ a.toInt < lo) (h2 : ¬ hi < a.toInt) (ho : offs[(a.toInt - lo).toNat]? = some off) (ht : (pc : Int) + off = (tgt : Int)) (k : V x cells slots w tgt lv st) : V x cells slots w pc lv (.int a :: st) :=
  fun H locs ls hW hS hl => lv_tableIn C.hx C.hb d h1 h2 ho ht (k H locs ls hW hS hl)
theorem r_widen {k n : Nat} (h1 : cells ≤ k) (h2 : slots ≤ n) (kk : V x k n w pc lv st) : V x cells slots w pc lv st :=
  fun H locs ls hW hS hl => W.widen h1 h2 (kk H locs ls hW hS hl)
theorem r_lv (ks : List Nat) (hf : lv_pick lv ks = lv') (k : V x cells slots w pc lv' st) : V x cells slots w pc lv st :=
  fun H locs ls hW hS hl => k H locs ls hW hS (lv_sub hl ks hf)
theorem r_if_eq {a : Int32} {off : Int} (tgt : Nat) (C : Cx x cc nL own rm) (d : decode cc pc = .ok (.ifCond .eq off, 3)) (ht : (pc : Int) + off = (tgt : Int)) (kt : a = 0 → V x cells slots w tgt lv st) (kf : ¬ a = 0 → V x cells slots w (pc + 3) lv st) : V x cells slots w pc lv (.int a :: st) :=
  fun H locs ls hW hS hl => lv_if_eq C.hx C.hb d ht (fun h => kt h H locs ls hW hS hl) (fun h => kf h H locs ls hW hS hl)
theorem r_icmp_eq {a b : Int32} {off : Int} (tgt : Nat) (C : Cx x cc nL own rm) (d : decode cc pc = .ok (.if_icmp .eq off, 3)) (ht : (pc : Int) + off = (tgt : Int)) (kt : a = b → V x cells slots w tgt lv st) (kf : ¬ a = b → V x cells slots w (pc + 3) lv st) : V x cells slots w pc lv (.int b :: .int a :: st) :=
  fun H locs ls hW hS hl => lv_icmp_eq C.hx C.hb d ht (fun h => kt h H locs ls hW hS hl) (fun h => kf h H locs ls hW hS hl)
theorem r_if_ne {a : Int32} {off : Int} (tgt : Nat) (C : Cx x cc nL own rm) (d : decode cc pc = .ok (.ifCond .ne off, 3)) (ht : (pc : Int) + off = (tgt : Int)) (kt : ¬ a = 0 → V x cells slots w tgt lv st) (kf : a = 0 → V x cells slots w (pc + 3) lv st) : V x cells slots w pc lv (.int a :: st) :=
  fun H locs ls hW hS hl => lv_if_ne C.hx C.hb d ht (fun h => kt h H locs ls hW hS hl) (fun h => kf h H locs ls hW hS hl)
theorem r_icmp_ne {a b : Int32} {off : Int} (tgt : Nat) (C : Cx x cc nL own rm) (d : decode cc pc = .ok (.if_icmp .ne off, 3)) (ht : (pc : Int) + off = (tgt : Int)) (kt : ¬ a = b → V x cells slots w tgt lv st) (kf : a = b → V x cells slots w (pc + 3) lv st) : V x cells slots w pc lv (.int b :: .int a :: st) :=
  fun H locs ls hW hS hl => lv_icmp_ne C.hx C.hb d ht (fun h => kt h H locs ls hW hS hl) (fun h => kf h H locs ls hW hS hl)
theorem r_if_lt {a : Int32} {off : Int} (tgt : Nat) (C : Cx x cc nL own rm) (d : decode cc pc = .ok (.ifCond .lt off, 3)) (ht : (pc : Int) + off = (tgt : Int)) (kt : a < 0 → V x cells slots w tgt lv st) (kf : ¬ (a < 0) → V x cells slots w (pc + 3) lv st) : V x cells slots w pc lv (.int a :: st) :=
  fun H locs ls hW hS hl => lv_if_lt C.hx C.hb d ht (fun h => kt h H locs ls hW hS hl) (fun h => kf h H locs ls hW hS hl)
theorem r_icmp_lt {a b : Int32} {off : Int} (tgt : Nat) (C : Cx x cc nL own rm) (d : decode cc pc = .ok (.if_icmp .lt off, 3)) (ht : (pc : Int) + off = (tgt : Int)) (kt : a < b → V x cells slots w tgt lv st) (kf : ¬ (a < b) → V x cells slots w (pc + 3) lv st) : V x cells slots w pc lv (.int b :: .int a :: st) :=
  fun H locs ls hW hS hl => lv_icmp_lt C.hx C.hb d ht (fun h => kt h H locs ls hW hS hl) (fun h => kf h H locs ls hW hS hl)
theorem r_if_ge {a : Int32} {off : Int} (tgt : Nat) (C : Cx x cc nL own rm) (d : decode cc pc = .ok (.ifCond .ge off, 3)) (ht : (pc : Int) + off = (tgt : Int)) (kt : 0 ≤ a → V x cells slots w tgt lv st) (kf : ¬ (0 ≤ a) → V x cells slots w (pc + 3) lv st) : V x cells slots w pc lv (.int a :: st) :=
  fun H locs ls hW hS hl => lv_if_ge C.hx C.hb d ht (fun h => kt h H locs ls hW hS hl) (fun h => kf h H locs ls hW hS hl)
theorem r_icmp_ge {a b : Int32} {off : Int} (tgt : Nat) (C : Cx x cc nL own rm) (d : decode cc pc = .ok (.if_icmp .ge off, 3)) (ht : (pc : Int) + off = (tgt : Int)) (kt : b ≤ a → V x cells slots w tgt lv st) (kf : ¬ (b ≤ a) → V x cells slots w (pc + 3) lv st) : V x cells slots w pc lv (.int b :: .int a :: st) :=
  fun H locs ls hW hS hl => lv_icmp_ge C.hx C.hb d ht (fun h => kt h H locs ls hW hS hl) (fun h => kf h H locs ls hW hS hl)
theorem r_if_gt {a : Int32} {off : Int} (tgt : Nat) (C : Cx x cc nL own rm) (d : decode cc pc = .ok (.ifCond .gt off, 3)) (ht : (pc : Int) + off = (tgt : Int)) (kt : 0 < a → V x cells slots w tgt lv st) (kf : ¬ (0 < a) → V x cells slots w (pc + 3) lv st) : V x cells slots w pc lv (.int a :: st) :=
  fun H locs ls hW hS hl => lv_if_gt C.hx C.hb d ht (fun h => kt h H locs ls hW hS hl) (fun h => kf h H locs ls hW hS hl)
theorem r_icmp_gt {a b : Int32} {off : Int} (tgt : Nat) (C : Cx x cc nL own rm) (d : decode cc pc = .ok (.if_icmp .gt off, 3)) (ht : (pc : Int) + off = (tgt : Int)) (kt : b < a → V x cells slots w tgt lv st) (kf : ¬ (b < a) → V x cells slots w (pc + 3) lv st) : V x cells slots w pc lv (.int b :: .int a :: st) :=
  fun H locs ls hW hS hl => lv_icmp_gt C.hx C.hb d ht (fun h => kt h H locs ls hW hS hl) (fun h => kf h H locs ls hW hS hl)
theorem r_if_le {a : Int32} {off : Int} (tgt : Nat) (C : Cx x cc nL own rm) (d : decode cc pc = .ok (.ifCond .le off, 3)) (ht : (pc : Int) + off = (tgt : Int)) (kt : a ≤ 0 → V x cells slots w tgt lv st) (kf : ¬ (a ≤ 0) → V x cells slots w (pc + 3) lv st) : V x cells slots w pc lv (.int a :: st) :=
  fun H locs ls hW hS hl => lv_if_le C.hx C.hb d ht (fun h => kt h H locs ls hW hS hl) (fun h => kf h H locs ls hW hS hl)
theorem r_icmp_le {a b : Int32} {off : Int} (tgt : Nat) (C : Cx x cc nL own rm) (d : decode cc pc = .ok (.if_icmp .le off, 3)) (ht : (pc : Int) + off = (tgt : Int)) (kt : a ≤ b → V x cells slots w tgt lv st) (kf : ¬ (a ≤ b) → V x cells slots w (pc + 3) lv st) : V x cells slots w pc lv (.int b :: .int a :: st) :=
  fun H locs ls hW hS hl => lv_icmp_le C.hx C.hb d ht (fun h => kt h H locs ls hW hS hl) (fun h => kf h H locs ls hW hS hl)
end ROWS
