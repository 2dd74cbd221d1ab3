/-! instruction rows over ww -/
section R8
variable {x : Cx} {R0 : Room} {own : String} {cc : ByteArray} {Ts : List Cond} {X : va_W} {L : List (Nat × Value)} {k n pc : Nat} {st : List Value}
theorem xw_iload (f : fx x R0 own cc Ts) {i : Nat} {v : Int32} (hd : decode cc pc = .ok (.iload i, 2)) (j : Nat) (hL : L[j]? = some (i, .int v))
    (kk : ww x X L k n (pc + 2) (.int v :: st)) : ww x X L k n pc (st) :=
  fun H locs ls hP hD hS hl => lv_iload f.1 f.2.1 hd (lv_at hl j hL) (kk H locs ls hP hD hS hl)
theorem xw_iload_n (f : fx x R0 own cc Ts) {q : Fin 4} {i : Nat} {v : Int32} (hd : decode cc pc = .ok (.iload_n q, 1)) (hq : (q : Nat) = i) (j : Nat) (hL : L[j]? = some (i, .int v))
    (kk : ww x X L k n (pc + 1) (.int v :: st)) : ww x X L k n pc (st) :=
  fun H locs ls hP hD hS hl => lv_iload_n f.1 f.2.1 hd hq (lv_at hl j hL) (kk H locs ls hP hD hS hl)
theorem xw_lload (f : fx x R0 own cc Ts) {i : Nat} {v : Int64} (hd : decode cc pc = .ok (.lload i, 2)) (j : Nat) (hL : L[j]? = some (i, .long v))
    (kk : ww x X L k n (pc + 2) (.long v :: st)) : ww x X L k n pc (st) :=
  fun H locs ls hP hD hS hl => lv_lload f.1 f.2.1 hd (lv_at hl j hL) (kk H locs ls hP hD hS hl)
theorem xw_lload_n (f : fx x R0 own cc Ts) {q : Fin 4} {i : Nat} {v : Int64} (hd : decode cc pc = .ok (.lload_n q, 1)) (hq : (q : Nat) = i) (j : Nat) (hL : L[j]? = some (i, .long v))
    (kk : ww x X L k n (pc + 1) (.long v :: st)) : ww x X L k n pc (st) :=
  fun H locs ls hP hD hS hl => lv_lload_n f.1 f.2.1 hd hq (lv_at hl j hL) (kk H locs ls hP hD hS hl)
theorem xw_aload (f : fx x R0 own cc Ts) {i : Nat} {v : Nat} (hd : decode cc pc = .ok (.aload i, 2)) (j : Nat) (hL : L[j]? = some (i, .ref v))
    (kk : ww x X L k n (pc + 2) (.ref v :: st)) : ww x X L k n pc (st) :=
  fun H locs ls hP hD hS hl => lv_aload f.1 f.2.1 hd (lv_at hl j hL) (kk H locs ls hP hD hS hl)
theorem xw_aload_n (f : fx x R0 own cc Ts) {q : Fin 4} {i : Nat} {v : Nat} (hd : decode cc pc = .ok (.aload_n q, 1)) (hq : (q : Nat) = i) (j : Nat) (hL : L[j]? = some (i, .ref v))
    (kk : ww x X L k n (pc + 1) (.ref v :: st)) : ww x X L k n pc (st) :=
  fun H locs ls hP hD hS hl => lv_aload_n f.1 f.2.1 hd hq (lv_at hl j hL) (kk H locs ls hP hD hS hl)
theorem xw_istore (f : fx x R0 own cc Ts) {i nL : Nat} {v : Int32} (hd : decode cc pc = .ok (.istore i, 2)) (L' : List (Nat × Value)) (hn : xn x = nL) (hi : i < nL) (hL : (i, Value.int v) :: L.filter (fun q => !(q.1 == i) && !(q.1 + 1 == i && q.2.category == 2)) = L')
    (kk : ww x X L' k n (pc + 2) (st)) : ww x X L k n pc (.int v :: st) :=
  fun H locs ls hP hD hS hl => lv_istore f.1 f.2.1 hd hl (by rw [hn]; exact hi) hL (fun ls hl => kk H locs ls hP hD hS hl)
theorem xw_istore_n (f : fx x R0 own cc Ts) {q : Fin 4} {i nL : Nat} {v : Int32} (hd : decode cc pc = .ok (.istore_n q, 1)) (hq : (q : Nat) = i) (L' : List (Nat × Value)) (hn : xn x = nL) (hi : i < nL) (hL : (i, Value.int v) :: L.filter (fun q => !(q.1 == i) && !(q.1 + 1 == i && q.2.category == 2)) = L')
    (kk : ww x X L' k n (pc + 1) (st)) : ww x X L k n pc (.int v :: st) :=
  fun H locs ls hP hD hS hl => lv_istore_n f.1 f.2.1 hd hq hl (by rw [hn]; exact hi) hL (fun ls hl => kk H locs ls hP hD hS hl)
theorem xw_lstore (f : fx x R0 own cc Ts) {i nL : Nat} {v : Int64} (hd : decode cc pc = .ok (.lstore i, 2)) (L' : List (Nat × Value)) (hn : xn x = nL) (hi : i + 1 < nL) (hL : (i, Value.long v) :: L.filter (fun q => !(q.1 == i) && (!(q.1 == i + 1) && !(q.1 + 1 == i && q.2.category == 2))) = L')
    (kk : ww x X L' k n (pc + 2) (st)) : ww x X L k n pc (.long v :: st) :=
  fun H locs ls hP hD hS hl => lv_lstore f.1 f.2.1 hd hl (by rw [hn]; exact hi) hL (fun ls hl => kk H locs ls hP hD hS hl)
theorem xw_lstore_n (f : fx x R0 own cc Ts) {q : Fin 4} {i nL : Nat} {v : Int64} (hd : decode cc pc = .ok (.lstore_n q, 1)) (hq : (q : Nat) = i) (L' : List (Nat × Value)) (hn : xn x = nL) (hi : i + 1 < nL) (hL : (i, Value.long v) :: L.filter (fun q => !(q.1 == i) && (!(q.1 == i + 1) && !(q.1 + 1 == i && q.2.category == 2))) = L')
    (kk : ww x X L' k n (pc + 1) (st)) : ww x X L k n pc (.long v :: st) :=
  fun H locs ls hP hD hS hl => lv_lstore_n f.1 f.2.1 hd hq hl (by rw [hn]; exact hi) hL (fun ls hl => kk H locs ls hP hD hS hl)
theorem xw_astore (f : fx x R0 own cc Ts) {i nL : Nat} {v : Nat} (hd : decode cc pc = .ok (.astore i, 2)) (L' : List (Nat × Value)) (hn : xn x = nL) (hi : i < nL) (hL : (i, Value.ref v) :: L.filter (fun q => !(q.1 == i) && !(q.1 + 1 == i && q.2.category == 2)) = L')
    (kk : ww x X L' k n (pc + 2) (st)) : ww x X L k n pc (.ref v :: st) :=
  fun H locs ls hP hD hS hl => lv_astore f.1 f.2.1 hd hl (by rw [hn]; exact hi) hL (fun ls hl => kk H locs ls hP hD hS hl)
theorem xw_astore_n (f : fx x R0 own cc Ts) {q : Fin 4} {i nL : Nat} {v : Nat} (hd : decode cc pc = .ok (.astore_n q, 1)) (hq : (q : Nat) = i) (L' : List (Nat × Value)) (hn : xn x = nL) (hi : i < nL) (hL : (i, Value.ref v) :: L.filter (fun q => !(q.1 == i) && !(q.1 + 1 == i && q.2.category == 2)) = L')
    (kk : ww x X L' k n (pc + 1) (st)) : ww x X L k n pc (.ref v :: st) :=
  fun H locs ls hP hD hS hl => lv_astore_n f.1 f.2.1 hd hq hl (by rw [hn]; exact hi) hL (fun ls hl => kk H locs ls hP hD hS hl)
theorem xw_iinc (f : fx x R0 own cc Ts) {i nL : Nat} {z : Int} {u v : Int32} (hd : decode cc pc = .ok (.iinc i z, 3)) (j : Nat) (hj : L[j]? = some (i, .int u)) (hv : u + Int32.ofInt z = v) (L' : List (Nat × Value)) (hn : xn x = nL) (hi : i < nL) (hL : (i, Value.int v) :: L.filter (fun q => !(q.1 == i) && !(q.1 + 1 == i && q.2.category == 2)) = L')
    (kk : ww x X L' k n (pc + 3) (st)) : ww x X L k n pc (st) :=
  fun H locs ls hP hD hS hl => lv_iinc f.1 f.2.1 hd hl hj hv (by rw [hn]; exact hi) hL (fun ls hl => kk H locs ls hP hD hS hl)
theorem xw_iconst (f : fx x R0 own cc Ts) {z : Int} {v : Int32} (hd : decode cc pc = .ok (.iconst z, 1)) (hv : Int32.ofInt z = v)
    (kk : ww x X L k n (pc + 1) (.int v :: st)) : ww x X L k n pc (st) :=
  fun H locs ls hP hD hS hl => lv_iconst f.1 f.2.1 hd hv (kk H locs ls hP hD hS hl)
theorem xw_bipush (f : fx x R0 own cc Ts) {z : Int} {v : Int32} (hd : decode cc pc = .ok (.bipush z, 2)) (hv : (Int8.ofInt z).toInt32 = v)
    (kk : ww x X L k n (pc + 2) (.int v :: st)) : ww x X L k n pc (st) :=
  fun H locs ls hP hD hS hl => lv_bipush f.1 f.2.1 hd hv (kk H locs ls hP hD hS hl)
theorem xw_sipush (f : fx x R0 own cc Ts) {z : Int} {v : Int32} (hd : decode cc pc = .ok (.sipush z, 3)) (hv : (Int16.ofInt z).toInt32 = v)
    (kk : ww x X L k n (pc + 3) (.int v :: st)) : ww x X L k n pc (st) :=
  fun H locs ls hP hD hS hl => lv_sipush f.1 f.2.1 hd hv (kk H locs ls hP hD hS hl)
theorem xw_lconst (f : fx x R0 own cc Ts) {z : Fin 2} {v : Int64} (hd : decode cc pc = .ok (.lconst z, 1)) (hv : Int64.ofNat (z : Nat) = v)
    (kk : ww x X L k n (pc + 1) (.long v :: st)) : ww x X L k n pc (st) :=
  fun H locs ls hP hD hS hl => lv_lconst f.1 f.2.1 hd hv (kk H locs ls hP hD hS hl)
theorem xw_ldc2 (f : fx x R0 own cc Ts) {i : Nat} {v : Int64} (hd : decode cc pc = .ok (.ldc2_w i, 3)) (hw : Cond.constantLong own i v ∈ Ts)
    (kk : ww x X L k n (pc + 3) (.long v :: st)) : ww x X L k n pc (st) :=
  fun H locs ls hP hD hS hl => lv_ldc2 f.1 f.2.1 f.2.2.2.1 (f.2.2.2.2.1 _ hw) hd (kk H locs ls hP hD hS hl)
theorem xw_ldc (f : fx x R0 own cc Ts) {i : Nat} {v : Int32} (hd : decode cc pc = .ok (.ldc i, 2)) (hw : Cond.constant own i v ∈ Ts)
    (kk : ww x X L k n (pc + 2) (.int v :: st)) : ww x X L k n pc (st) :=
  fun H locs ls hP hD hS hl => lv_ldc f.1 f.2.1 f.2.2.2.1 (f.2.2.2.2.1 _ hw) hd (kk H locs ls hP hD hS hl)
theorem xw_ldcw (f : fx x R0 own cc Ts) {i : Nat} {v : Int32} (hd : decode cc pc = .ok (.ldc_w i, 3)) (hw : Cond.constant own i v ∈ Ts)
    (kk : ww x X L k n (pc + 3) (.int v :: st)) : ww x X L k n pc (st) :=
  fun H locs ls hP hD hS hl => lv_ldcw f.1 f.2.1 f.2.2.2.1 (f.2.2.2.2.1 _ hw) hd (kk H locs ls hP hD hS hl)
theorem xw_null (f : fx x R0 own cc Ts) (hd : decode cc pc = .ok (.aconst_null, 1))
    (kk : ww x X L k n (pc + 1) (.null :: st)) : ww x X L k n pc (st) :=
  fun H locs ls hP hD hS hl => lv_null f.1 f.2.1 hd (kk H locs ls hP hD hS hl)
theorem xw_iadd (f : fx x R0 own cc Ts) {u v : Int32} (hd : decode cc pc = .ok (.iadd, 1))
    (kk : ww x X L k n (pc + 1) (.int (u + v) :: st)) : ww x X L k n pc (.int v :: .int u :: st) :=
  fun H locs ls hP hD hS hl => lv_iadd f.1 f.2.1 hd (kk H locs ls hP hD hS hl)
theorem xw_isub (f : fx x R0 own cc Ts) {u v : Int32} (hd : decode cc pc = .ok (.isub, 1))
    (kk : ww x X L k n (pc + 1) (.int (u - v) :: st)) : ww x X L k n pc (.int v :: .int u :: st) :=
  fun H locs ls hP hD hS hl => lv_isub f.1 f.2.1 hd (kk H locs ls hP hD hS hl)
theorem xw_imul (f : fx x R0 own cc Ts) {u v : Int32} (hd : decode cc pc = .ok (.imul, 1))
    (kk : ww x X L k n (pc + 1) (.int (u * v) :: st)) : ww x X L k n pc (.int v :: .int u :: st) :=
  fun H locs ls hP hD hS hl => lv_imul f.1 f.2.1 hd (kk H locs ls hP hD hS hl)
theorem xw_iand (f : fx x R0 own cc Ts) {u v : Int32} (hd : decode cc pc = .ok (.iand, 1))
    (kk : ww x X L k n (pc + 1) (.int (u &&& v) :: st)) : ww x X L k n pc (.int v :: .int u :: st) :=
  fun H locs ls hP hD hS hl => lv_iand f.1 f.2.1 hd (kk H locs ls hP hD hS hl)
theorem xw_ior (f : fx x R0 own cc Ts) {u v : Int32} (hd : decode cc pc = .ok (.ior, 1))
    (kk : ww x X L k n (pc + 1) (.int (u ||| v) :: st)) : ww x X L k n pc (.int v :: .int u :: st) :=
  fun H locs ls hP hD hS hl => lv_ior f.1 f.2.1 hd (kk H locs ls hP hD hS hl)
theorem xw_ishl (f : fx x R0 own cc Ts) {u v : Int32} (hd : decode cc pc = .ok (.ishl, 1))
    (kk : ww x X L k n (pc + 1) (.int (u <<< (v &&& 31)) :: st)) : ww x X L k n pc (.int v :: .int u :: st) :=
  fun H locs ls hP hD hS hl => lv_ishl f.1 f.2.1 hd (kk H locs ls hP hD hS hl)
theorem xw_ishr (f : fx x R0 own cc Ts) {u v : Int32} (hd : decode cc pc = .ok (.ishr, 1))
    (kk : ww x X L k n (pc + 1) (.int (u >>> (v &&& 31)) :: st)) : ww x X L k n pc (.int v :: .int u :: st) :=
  fun H locs ls hP hD hS hl => lv_ishr f.1 f.2.1 hd (kk H locs ls hP hD hS hl)
theorem xw_idiv (f : fx x R0 own cc Ts) {u v : Int32} (hd : decode cc pc = .ok (.idiv, 1)) (hne : ¬ v = 0)
    (kk : ww x X L k n (pc + 1) (.int (u / v) :: st)) : ww x X L k n pc (.int v :: .int u :: st) :=
  fun H locs ls hP hD hS hl => lv_idiv f.1 f.2.1 hd hne (kk H locs ls hP hD hS hl)
theorem xw_irem (f : fx x R0 own cc Ts) {u v : Int32} (hd : decode cc pc = .ok (.irem, 1)) (hne : ¬ v = 0)
    (kk : ww x X L k n (pc + 1) (.int (u - u / v * v) :: st)) : ww x X L k n pc (.int v :: .int u :: st) :=
  fun H locs ls hP hD hS hl => lv_irem f.1 f.2.1 hd hne (kk H locs ls hP hD hS hl)
theorem xw_land (f : fx x R0 own cc Ts) {u v : Int64} (hd : decode cc pc = .ok (.land, 1))
    (kk : ww x X L k n (pc + 1) (.long (u &&& v) :: st)) : ww x X L k n pc (.long v :: .long u :: st) :=
  fun H locs ls hP hD hS hl => lv_land f.1 f.2.1 hd (kk H locs ls hP hD hS hl)
theorem xw_lor (f : fx x R0 own cc Ts) {u v : Int64} (hd : decode cc pc = .ok (.lor, 1))
    (kk : ww x X L k n (pc + 1) (.long (u ||| v) :: st)) : ww x X L k n pc (.long v :: .long u :: st) :=
  fun H locs ls hP hD hS hl => lv_lor f.1 f.2.1 hd (kk H locs ls hP hD hS hl)
theorem xw_ladd (f : fx x R0 own cc Ts) {u v : Int64} (hd : decode cc pc = .ok (.ladd, 1))
    (kk : ww x X L k n (pc + 1) (.long (u + v) :: st)) : ww x X L k n pc (.long v :: .long u :: st) :=
  fun H locs ls hP hD hS hl => lv_ladd f.1 f.2.1 hd (kk H locs ls hP hD hS hl)
theorem xw_iushr (f : fx x R0 own cc Ts) {u v : Int32} (hd : decode cc pc = .ok (.iushr, 1))
    (kk : ww x X L k n (pc + 1) (.int ((u.toUInt32 >>> (v.toUInt32 &&& Int32.toUInt32 31)).toInt32) :: st)) : ww x X L k n pc (.int v :: .int u :: st) :=
  fun H locs ls hP hD hS hl => lv_iushr f.1 f.2.1 hd rfl (kk H locs ls hP hD hS hl)
theorem xw_lshl (f : fx x R0 own cc Ts) {u : Int64} {v : Int32} (hd : decode cc pc = .ok (.lshl, 1))
    (kk : ww x X L k n (pc + 1) (.long (u <<< (v.toInt64 &&& 63)) :: st)) : ww x X L k n pc (.int v :: .long u :: st) :=
  fun H locs ls hP hD hS hl => lv_lshl f.1 f.2.1 hd rfl (kk H locs ls hP hD hS hl)
theorem xw_lshr (f : fx x R0 own cc Ts) {u : Int64} {v : Int32} (hd : decode cc pc = .ok (.lshr, 1))
    (kk : ww x X L k n (pc + 1) (.long (u >>> (v.toInt64 &&& 63)) :: st)) : ww x X L k n pc (.int v :: .long u :: st) :=
  fun H locs ls hP hD hS hl => lv_lshr f.1 f.2.1 hd rfl (kk H locs ls hP hD hS hl)
theorem xw_lushr (f : fx x R0 own cc Ts) {u : Int64} {v : Int32} (hd : decode cc pc = .ok (.lushr, 1))
    (kk : ww x X L k n (pc + 1) (.long ((u.toUInt64 >>> (v.toInt64.toUInt64 &&& Int64.toUInt64 63)).toInt64) :: st)) : ww x X L k n pc (.int v :: .long u :: st) :=
  fun H locs ls hP hD hS hl => lv_lushr f.1 f.2.1 hd rfl (kk H locs ls hP hD hS hl)
theorem xw_i2l (f : fx x R0 own cc Ts) {u : Int32} (hd : decode cc pc = .ok (.i2l, 1))
    (kk : ww x X L k n (pc + 1) (.long u.toInt64 :: st)) : ww x X L k n pc (.int u :: st) :=
  fun H locs ls hP hD hS hl => lv_i2l f.1 f.2.1 hd rfl (kk H locs ls hP hD hS hl)
theorem xw_l2i (f : fx x R0 own cc Ts) {u : Int64} (hd : decode cc pc = .ok (.l2i, 1))
    (kk : ww x X L k n (pc + 1) (.int u.toInt32 :: st)) : ww x X L k n pc (.long u :: st) :=
  fun H locs ls hP hD hS hl => lv_l2i f.1 f.2.1 hd rfl (kk H locs ls hP hD hS hl)
theorem xw_i2c (f : fx x R0 own cc Ts) {u : Int32} (hd : decode cc pc = .ok (.i2c, 1))
    (kk : ww x X L k n (pc + 1) (.int (u.toUInt32 % 65536).toInt32 :: st)) : ww x X L k n pc (.int u :: st) :=
  fun H locs ls hP hD hS hl => lv_i2c f.1 f.2.1 hd rfl (kk H locs ls hP hD hS hl)
theorem xw_i2b (f : fx x R0 own cc Ts) {u : Int32} (hd : decode cc pc = .ok (.i2b, 1))
    (kk : ww x X L k n (pc + 1) (.int u.toInt8.toInt32 :: st)) : ww x X L k n pc (.int u :: st) :=
  fun H locs ls hP hD hS hl => lv_i2b f.1 f.2.1 hd rfl (kk H locs ls hP hD hS hl)
theorem xw_lcmp (f : fx x R0 own cc Ts) {u v : Int64} (hd : decode cc pc = .ok (.lcmp, 1))
    (kk : ww x X L k n (pc + 1) (.int (lg_cmp u v) :: st)) : ww x X L k n pc (.long v :: .long u :: st) :=
  fun H locs ls hP hD hS hl => W.lcmp f.1 f.2.1 hd (kk H locs ls hP hD hS hl)
theorem xw_dup (f : fx x R0 own cc Ts) {v : Value} (hd : decode cc pc = .ok (.dup, 1)) (hv : v.category = 1)
    (kk : ww x X L k n (pc + 1) (v :: v :: st)) : ww x X L k n pc (v :: st) :=
  fun H locs ls hP hD hS hl => lv_dup f.1 f.2.1 hd hv (kk H locs ls hP hD hS hl)
theorem xw_dup_x1 (f : fx x R0 own cc Ts) {u v : Value} (hd : decode cc pc = .ok (.dup_x1, 1)) (hu : u.category = 1) (hv : v.category = 1)
    (kk : ww x X L k n (pc + 1) (u :: v :: u :: st)) : ww x X L k n pc (u :: v :: st) :=
  fun H locs ls hP hD hS hl => lv_dup_x1 f.1 f.2.1 hd hu hv (kk H locs ls hP hD hS hl)
theorem xw_dup2 (f : fx x R0 own cc Ts) {u v : Value} (hd : decode cc pc = .ok (.dup2, 1)) (hu : u.category = 1) (hv : v.category = 1)
    (kk : ww x X L k n (pc + 1) (u :: v :: u :: v :: st)) : ww x X L k n pc (u :: v :: st) :=
  fun H locs ls hP hD hS hl => lv_dup2_11 f.1 f.2.1 hd hu hv (kk H locs ls hP hD hS hl)
theorem xw_pop (f : fx x R0 own cc Ts) {v : Value} (hd : decode cc pc = .ok (.pop, 1)) (hv : v.category = 1)
    (kk : ww x X L k n (pc + 1) (st)) : ww x X L k n pc (v :: st) :=
  fun H locs ls hP hD hS hl => lv_pop f.1 f.2.1 hd hv (kk H locs ls hP hD hS hl)
theorem xw_topi {v : Int32} (kk : ∀ y : Int32, y = v → ww x X L k n pc (.int y :: st)) : ww x X L k n pc (.int v :: st) := kk v rfl
theorem xw_topl {v : Int64} (kk : ∀ y : Int64, y = v → ww x X L k n pc (.long y :: st)) : ww x X L k n pc (.long v :: st) := kk v rfl
theorem xw_if_eq (f : fx x R0 own cc Ts) {v : Int32} {o : Int} {tgt : Nat} {c : Prop} (hd : decode cc pc = .ok (.ifCond .eq o, 3)) (hc : v = 0 ↔ c) (ht : (pc : Int) + o = (tgt : Int))
    (kk : (c → ww x X L k n tgt st) ∧ (¬ c → ww x X L k n (pc + 3) st)) : ww x X L k n pc (.int v :: st) :=
  fun H locs ls hP hD hS hl => lv_if_eq f.1 f.2.1 hd ht (fun z => kk.1 (hc.mp z) H locs ls hP hD hS hl) (fun z => kk.2 (fun y => z (hc.mpr y)) H locs ls hP hD hS hl)
theorem xw_if_ne (f : fx x R0 own cc Ts) {v : Int32} {o : Int} {tgt : Nat} {c : Prop} (hd : decode cc pc = .ok (.ifCond .ne o, 3)) (hc : v = 0 ↔ c) (ht : (pc : Int) + o = (tgt : Int))
    (kk : (c → ww x X L k n (pc + 3) st) ∧ (¬ c → ww x X L k n tgt st)) : ww x X L k n pc (.int v :: st) :=
  fun H locs ls hP hD hS hl => lv_if_ne f.1 f.2.1 hd ht (fun z => kk.2 (fun y => z (hc.mpr y)) H locs ls hP hD hS hl) (fun z => kk.1 (hc.mp z) H locs ls hP hD hS hl)
theorem xw_if_lt (f : fx x R0 own cc Ts) {v : Int32} {o : Int} {tgt : Nat} {c : Prop} (hd : decode cc pc = .ok (.ifCond .lt o, 3)) (hc : v < 0 ↔ c) (ht : (pc : Int) + o = (tgt : Int))
    (kk : (c → ww x X L k n tgt st) ∧ (¬ c → ww x X L k n (pc + 3) st)) : ww x X L k n pc (.int v :: st) :=
  fun H locs ls hP hD hS hl => lv_if_lt f.1 f.2.1 hd ht (fun z => kk.1 (hc.mp z) H locs ls hP hD hS hl) (fun z => kk.2 (fun y => z (hc.mpr y)) H locs ls hP hD hS hl)
theorem xw_if_ge (f : fx x R0 own cc Ts) {v : Int32} {o : Int} {tgt : Nat} {c : Prop} (hd : decode cc pc = .ok (.ifCond .ge o, 3)) (hc : 0 ≤ v ↔ c) (ht : (pc : Int) + o = (tgt : Int))
    (kk : (c → ww x X L k n tgt st) ∧ (¬ c → ww x X L k n (pc + 3) st)) : ww x X L k n pc (.int v :: st) :=
  fun H locs ls hP hD hS hl => lv_if_ge f.1 f.2.1 hd ht (fun z => kk.1 (hc.mp z) H locs ls hP hD hS hl) (fun z => kk.2 (fun y => z (hc.mpr y)) H locs ls hP hD hS hl)
theorem xw_if_gt (f : fx x R0 own cc Ts) {v : Int32} {o : Int} {tgt : Nat} {c : Prop} (hd : decode cc pc = .ok (.ifCond .gt o, 3)) (hc : 0 < v ↔ c) (ht : (pc : Int) + o = (tgt : Int))
    (kk : (c → ww x X L k n tgt st) ∧ (¬ c → ww x X L k n (pc + 3) st)) : ww x X L k n pc (.int v :: st) :=
  fun H locs ls hP hD hS hl => lv_if_gt f.1 f.2.1 hd ht (fun z => kk.1 (hc.mp z) H locs ls hP hD hS hl) (fun z => kk.2 (fun y => z (hc.mpr y)) H locs ls hP hD hS hl)
theorem xw_if_le (f : fx x R0 own cc Ts) {v : Int32} {o : Int} {tgt : Nat} {c : Prop} (hd : decode cc pc = .ok (.ifCond .le o, 3)) (hc : v ≤ 0 ↔ c) (ht : (pc : Int) + o = (tgt : Int))
    (kk : (c → ww x X L k n tgt st) ∧ (¬ c → ww x X L k n (pc + 3) st)) : ww x X L k n pc (.int v :: st) :=
  fun H locs ls hP hD hS hl => lv_if_le f.1 f.2.1 hd ht (fun z => kk.1 (hc.mp z) H locs ls hP hD hS hl) (fun z => kk.2 (fun y => z (hc.mpr y)) H locs ls hP hD hS hl)
theorem xw_icmp_eq (f : fx x R0 own cc Ts) {u v : Int32} {o : Int} {tgt : Nat} (hd : decode cc pc = .ok (.if_icmp .eq o, 3)) (ht : (pc : Int) + o = (tgt : Int))
    (kk : (u = v → ww x X L k n tgt st) ∧ (¬ (u = v) → ww x X L k n (pc + 3) st)) : ww x X L k n pc (.int v :: .int u :: st) :=
  fun H locs ls hP hD hS hl => lv_icmp_eq f.1 f.2.1 hd ht (fun z => kk.1 z H locs ls hP hD hS hl) (fun z => kk.2 z H locs ls hP hD hS hl)
theorem xw_icmp_ne (f : fx x R0 own cc Ts) {u v : Int32} {o : Int} {tgt : Nat} (hd : decode cc pc = .ok (.if_icmp .ne o, 3)) (ht : (pc : Int) + o = (tgt : Int))
    (kk : (u = v → ww x X L k n (pc + 3) st) ∧ (¬ u = v → ww x X L k n tgt st)) : ww x X L k n pc (.int v :: .int u :: st) :=
  fun H locs ls hP hD hS hl => lv_icmp_ne f.1 f.2.1 hd ht (fun z => kk.2 z H locs ls hP hD hS hl) (fun z => kk.1 z H locs ls hP hD hS hl)
theorem xw_icmp_lt (f : fx x R0 own cc Ts) {u v : Int32} {o : Int} {tgt : Nat} (hd : decode cc pc = .ok (.if_icmp .lt o, 3)) (ht : (pc : Int) + o = (tgt : Int))
    (kk : (u < v → ww x X L k n tgt st) ∧ (¬ (u < v) → ww x X L k n (pc + 3) st)) : ww x X L k n pc (.int v :: .int u :: st) :=
  fun H locs ls hP hD hS hl => lv_icmp_lt f.1 f.2.1 hd ht (fun z => kk.1 z H locs ls hP hD hS hl) (fun z => kk.2 z H locs ls hP hD hS hl)
theorem xw_icmp_ge (f : fx x R0 own cc Ts) {u v : Int32} {o : Int} {tgt : Nat} (hd : decode cc pc = .ok (.if_icmp .ge o, 3)) (ht : (pc : Int) + o = (tgt : Int))
    (kk : (v ≤ u → ww x X L k n tgt st) ∧ (¬ (v ≤ u) → ww x X L k n (pc + 3) st)) : ww x X L k n pc (.int v :: .int u :: st) :=
  fun H locs ls hP hD hS hl => lv_icmp_ge f.1 f.2.1 hd ht (fun z => kk.1 z H locs ls hP hD hS hl) (fun z => kk.2 z H locs ls hP hD hS hl)
theorem xw_icmp_gt (f : fx x R0 own cc Ts) {u v : Int32} {o : Int} {tgt : Nat} (hd : decode cc pc = .ok (.if_icmp .gt o, 3)) (ht : (pc : Int) + o = (tgt : Int))
    (kk : (v < u → ww x X L k n tgt st) ∧ (¬ (v < u) → ww x X L k n (pc + 3) st)) : ww x X L k n pc (.int v :: .int u :: st) :=
  fun H locs ls hP hD hS hl => lv_icmp_gt f.1 f.2.1 hd ht (fun z => kk.1 z H locs ls hP hD hS hl) (fun z => kk.2 z H locs ls hP hD hS hl)
theorem xw_icmp_le (f : fx x R0 own cc Ts) {u v : Int32} {o : Int} {tgt : Nat} (hd : decode cc pc = .ok (.if_icmp .le o, 3)) (ht : (pc : Int) + o = (tgt : Int))
    (kk : (u ≤ v → ww x X L k n tgt st) ∧ (¬ (u ≤ v) → ww x X L k n (pc + 3) st)) : ww x X L k n pc (.int v :: .int u :: st) :=
  fun H locs ls hP hD hS hl => lv_icmp_le f.1 f.2.1 hd ht (fun z => kk.1 z H locs ls hP hD hS hl) (fun z => kk.2 z H locs ls hP hD hS hl)
theorem xw_goto (f : fx x R0 own cc Ts) {o : Int} {tgt : Nat} (hd : decode cc pc = .ok (.goto o, 3)) (ht : (pc : Int) + o = (tgt : Int)) (kk : ww x X L k n tgt st): ww x X L k n pc st :=
  fun H locs ls hP hD hS hl => lv_goto f.1 f.2.1 hd ht (kk H locs ls hP hD hS hl)
theorem xw_get (f : fx x R0 own cc Ts) {C ref : String} {T : u_T} {N ci i : Nat} {a : Nat} {fs : List Value} {v : Value} (hd : decode cc pc = .ok (.getfield i, 3)) (hin : ∀ w ∈ u_ws C T N, w ∈ Ts) (hc : vwCl[ci]? = some (C, T, N)) (j : Nat) (he : X[j]? = some (a, .inr (ci, fs))) (q : Nat) (hq : q < N) (hr : ref = (T q).1) (hw : Cond.fieldLink own i ref (T q).2.1 (T q).2.2.1 ∈ Ts) (hv : fs[q]? = some v)
    (kk : ww x X L k n (pc + 3) (v :: st)) : ww x X L k n pc (.ref a :: st) :=
  fun H locs ls hP hD hS hl => va_get f.1 f.2.1 f.2.2.2.2.1 hin f.2.2.2.1 f.2.2.2.2.2.1 hP j he hc q hq (f.2.2.2.2.1 _ hw) (fun _ h => by rw [hr]; exact h) hv hd (kk H locs ls hP hD hS hl)
theorem xw_put (f : fx x R0 own cc Ts) {C ref : String} {T : u_T} {N ci i : Nat} {ty0 : Nat → FieldType} {a : Nat} {fs : List Value} {v : Value} {ty : FieldType} (hd : decode cc pc = .ok (.putfield i, 3)) (hin : ∀ w ∈ u_ws C T N, w ∈ Ts) (hc : vwCl[ci]? = some (C, T, N)) (hty : ∀ k, k < N → parseFieldDescriptor (T k).2.2.1 = some (ty0 k)) (hnm : ∀ a, a < N → ∀ b, b < N → a ≠ b → (T a).2.1 ≠ (T b).2.1) (j : Nat) (he : X[j]? = some (a, .inr (ci, fs))) (q : Nat) (hq : q < N) (hr : ref = (T q).1) (hw : Cond.fieldLink own i ref (T q).2.1 (T q).2.2.1 ∈ Ts) (hfin : (T q).2.2.2 = false) (ht : ty0 q = ty) (hn : narrow ty v = v) (hfit : fits ty v = true) (hlen : q < fs.length) (X' : va_W) (hX : X.set j (a, .inr (ci, fs.set q v)) = X')
    (kk : ww x X' L k n (pc + 3) st) : ww x X L k n pc (v :: .ref a :: st) :=
  fun H locs ls hP hD hS hl => va_put f.1 f.2.1 f.2.2.2.2.1 hin ty0 hty hnm f.2.2.2.1 f.2.2.2.2.2.1 hP hD hS j he hc q hq (f.2.2.2.2.1 _ hw) (fun _ h => by rw [hr]; exact h) hfin (by rw [hty q hq, ht]) hn hfit hlen hd (fun H locs hP hD hS => kk H locs ls (by rw [← hX]; exact hP) (by rw [← hX]; exact hD) hS hl)
theorem xw_putF (f : fx x R0 own cc Ts) {C ref : String} {T : u_T} {N ci i : Nat} {ty0 : Nat → FieldType} {a : Nat} {fs : List Value} {v : Value} {ty : FieldType} (hd : decode cc pc = .ok (.putfield i, 3)) (hin2 : (xh x).name = "<init>") (hin : ∀ w ∈ u_ws C T N, w ∈ Ts) (hc : vwCl[ci]? = some (C, T, N)) (hty : ∀ k, k < N → parseFieldDescriptor (T k).2.2.1 = some (ty0 k)) (hnm : ∀ a, a < N → ∀ b, b < N → a ≠ b → (T a).2.1 ≠ (T b).2.1) (j : Nat) (he : X[j]? = some (a, .inr (ci, fs))) (q : Nat) (hq : q < N) (hr : ref = (T q).1) (hw : Cond.fieldLink own i ref (T q).2.1 (T q).2.2.1 ∈ Ts) (hfin : (T q).2.2.2 = true) (hdecl : (T q).1 = own) (ht : ty0 q = ty) (hn : narrow ty v = v) (hfit : fits ty v = true) (hlen : q < fs.length) (X' : va_W) (hX : X.set j (a, .inr (ci, fs.set q v)) = X')
    (kk : ww x X' L k n (pc + 3) st) : ww x X L k n pc (v :: .ref a :: st) :=
  fun H locs ls hP hD hS hl => va_putF f.1 f.2.1 f.2.2.2.2.1 hin ty0 hty hnm f.2.2.2.1 f.2.2.2.2.2.1 hP hD hS j he hc q hq (f.2.2.2.2.1 _ hw) (fun _ h => by rw [hr]; exact h) hfin hin2 hdecl (by rw [hty q hq, ht]) hn hfit hlen hd (fun H locs hP hD hS => kk H locs ls (by rw [← hX]; exact hP) (by rw [← hX]; exact hD) hS hl)
theorem xw_iald (f : fx x R0 own cc Ts) {a N : Nat} {f0 : Nat → Int32} {i : Int32} (hd : decode cc pc = .ok (.iaload, 1)) (j : Nat) (he : X[j]? = some (a, .inl (gI (xg x), N, .inl f0))) (hin : vp_in i N)
    (kk : ww x X L k n (pc + 1) (.int (f0 i.toNatClampNeg) :: st)) : ww x X L k n pc (.int i :: .ref a :: st) :=
  fun H locs ls hP hD hS hl => va_iald f.1 f.2.1 f.2.2.2.2.2.1 hP j 0 he rfl hin hd (kk H locs ls hP hD hS hl)
theorem xw_zald (f : fx x R0 own cc Ts) {a N : Nat} {f0 : Nat → Int32} {i : Int32} (hd : decode cc pc = .ok (.baload, 1)) (j : Nat) (he : X[j]? = some (a, .inl (gZ (xg x), N, .inl f0))) (hin : vp_in i N)
    (kk : ww x X L k n (pc + 1) (.int (f0 i.toNatClampNeg) :: st)) : ww x X L k n pc (.int i :: .ref a :: st) :=
  fun H locs ls hP hD hS hl => va_zald f.1 f.2.1 f.2.2.2.2.2.1 hP j 2 he rfl hin hd (kk H locs ls hP hD hS hl)
theorem xw_lald (f : fx x R0 own cc Ts) {a N : Nat} {f0 : Nat → Int64} {i : Int32} (hd : decode cc pc = .ok (.laload, 1)) (j : Nat) (he : X[j]? = some (a, .inl (gJ (xg x), N, .inr (.inl f0)))) (hin : vp_in i N)
    (kk : ww x X L k n (pc + 1) (.long (f0 i.toNatClampNeg) :: st)) : ww x X L k n pc (.int i :: .ref a :: st) :=
  fun H locs ls hP hD hS hl => va_lald f.1 f.2.1 f.2.2.2.2.2.1 hP j 1 he rfl hin hd (kk H locs ls hP hD hS hl)
theorem xw_iast (f : fx x R0 own cc Ts) {a N : Nat} {f0 : Nat → Int32} {i : Int32} {v : Int32} (hd : decode cc pc = .ok (.iastore, 1)) (j : Nat) (he : X[j]? = some (a, .inl (gI (xg x), N, .inl f0))) (hin : vp_in i N) (X' : va_W) (hX : X.set j (a, .inl (gI (xg x), N, .inl (upd f0 i.toNatClampNeg v))) = X')
    (kk : ww x X' L k n (pc + 1) st) : ww x X L k n pc (.int v :: .int i :: .ref a :: st) :=
  fun H locs ls hP hD hS hl => va_iast f.1 f.2.1 f.2.2.2.2.2.1 hP hD hS j 0 he rfl hin hd (fun H locs hP hD hS => kk H locs ls (by rw [← hX]; exact hP) (by rw [← hX]; exact hD) hS hl)
theorem xw_zast (f : fx x R0 own cc Ts) {a N : Nat} {f0 : Nat → Int32} {i : Int32} {v : Int32} (hd : decode cc pc = .ok (.bastore, 1)) (j : Nat) (he : X[j]? = some (a, .inl (gZ (xg x), N, .inl f0))) (hin : vp_in i N) (X' : va_W) (hX : X.set j (a, .inl (gZ (xg x), N, .inl (upd f0 i.toNatClampNeg (vp_nar .boolean v)))) = X')
    (kk : ww x X' L k n (pc + 1) st) : ww x X L k n pc (.int v :: .int i :: .ref a :: st) :=
  fun H locs ls hP hD hS hl => va_zast f.1 f.2.1 f.2.2.2.2.2.1 hP hD hS j 2 he rfl hin hd (fun H locs hP hD hS => kk H locs ls (by rw [← hX]; exact hP) (by rw [← hX]; exact hD) hS hl)
theorem xw_last (f : fx x R0 own cc Ts) {a N : Nat} {f0 : Nat → Int64} {i : Int32} {v : Int64} (hd : decode cc pc = .ok (.lastore, 1)) (j : Nat) (he : X[j]? = some (a, .inl (gJ (xg x), N, .inr (.inl f0)))) (hin : vp_in i N) (X' : va_W) (hX : X.set j (a, .inl (gJ (xg x), N, .inr (.inl (vp_updL f0 i.toNatClampNeg v)))) = X')
    (kk : ww x X' L k n (pc + 1) st) : ww x X L k n pc (.long v :: .int i :: .ref a :: st) :=
  fun H locs ls hP hD hS hl => va_last f.1 f.2.1 f.2.2.2.2.2.1 hP hD hS j 1 he rfl hin hd (fun H locs hP hD hS => kk H locs ls (by rw [← hX]; exact hP) (by rw [← hX]; exact hD) hS hl)
theorem xw_alen (f : fx x R0 own cc Ts) {a : Nat} {cA : ClassId} {y : vp_A} {ty : FieldType} {v : Int32} (hd : decode cc pc = .ok (.arraylength, 1)) (j t0 : Nat) (he : X[j]? = some (a, .inl (cA, y))) (ht : (TY (xg x))[t0]? = some (cA, ty)) (hv : Int32.ofNat y.1 = v)
    (kk : ww x X L k n (pc + 1) (.int v :: st)) : ww x X L k n pc (.ref a :: st) :=
  fun H locs ls hP hD hS hl => va_alen f.1 f.2.1 f.2.2.2.2.2.1 hP j t0 he ht hv hd (kk H locs ls hP hD hS hl)
theorem xw_new (f : fx x R0 own cc Ts) {C : String} {T : u_T} {N ci i : Nat} {ty0 : Nat → FieldType} (hd : decode cc pc = .ok (.new i, 3)) (hin : ∀ w ∈ u_ws C T N, w ∈ Ts) (hc : vwCl[ci]? = some (C, T, N)) (hty : ∀ k, k < N → parseFieldDescriptor (T k).2.2.1 = some (ty0 k)) (h1 : Cond.classLink own i C ∈ Ts) (h2 : Cond.instantiable C N ∈ Ts) (h3 : Cond.initialized C ∈ Ts) (fs : List Value) (hfs : ∀ j, j < N → defaultValue (ty0 j) = vp_V fs j) (hk : k + 1 ≤ R0.cells) (hn : n + N ≤ R0.slots)
    (kk : ∀ q : Nat, ww x (X ++ [(q, .inr (ci, fs))]) L (k + 1) (n + N) (pc + 3) (.ref q :: st)) : ww x X L k n pc st :=
  fun H locs ls hP hD hS hl => va_new f.1 f.2.1 f.2.2.2.2.1 hin ty0 hty f.2.2.2.1 (f.2.2.2.2.1 _ h1) (f.2.2.2.2.1 _ h2) (f.2.2.2.2.1 _ h3) f.2.2.2.2.2.1 hP hD hS f.2.2.2.2.2.2.1 hc hfs (by rw [f.2.2.2.2.2.2.2.2]; exact hk) (by rw [f.2.2.2.2.2.2.2.2]; exact hn) hd (fun q H hP hD hS => kk q H locs ls hP hD hS hl)
theorem xw_iret (f : fx x R0 own cc Ts) {mc ms : Nat} {post : Option Value → va_W → Prop} {v : Int32} (hd : decode cc pc = .ok (.ireturn, 1)) (r : re x (some .int) mc ms post) (h1 : k ≤ mc) (h2 : n ≤ ms) (hp : post (some (.int v)) X): ww x X L k n pc [.int v] :=
  fun H locs ls hP hD hS hl => W.widen h1 h2 (r.2.2 _ _ _ (W.iret f.1 f.2.1 r.1 (fun t ht hW => ⟨⟨_, X, rfl, hp, by rw [ht]; exact hP, hD⟩, hS.F ht⟩) hS.2.2 hd r.2.1))
theorem xw_lret (f : fx x R0 own cc Ts) {mc ms : Nat} {post : Option Value → va_W → Prop} {v : Int64} (hd : decode cc pc = .ok (.lreturn, 1)) (r : re x (some .long) mc ms post) (h1 : k ≤ mc) (h2 : n ≤ ms) (hp : post (some (.long v)) X): ww x X L k n pc [.long v] :=
  fun H locs ls hP hD hS hl => W.widen h1 h2 (r.2.2 _ _ _ (W.lret f.1 f.2.1 r.1 (fun t ht hW => ⟨⟨_, X, rfl, hp, by rw [ht]; exact hP, hD⟩, hS.F ht⟩) hS.2.2 hd r.2.1))
theorem xw_zret (f : fx x R0 own cc Ts) {mc ms : Nat} {ty : FieldType} {post : Option Value → va_W → Prop} {v : Int32} (hd : decode cc pc = .ok (.ireturn, 1)) (r : re x (some ty) mc ms post) (h1 : k ≤ mc) (h2 : n ≤ ms) (hn : narrow ty (.int v) = .int v) (hp : post (some (.int v)) X): ww x X L k n pc [.int v] :=
  fun H locs ls hP hD hS hl => W.widen h1 h2 (r.2.2 _ _ _ (W.zret f.1 f.2.1 r.1 hn (fun t ht hW => ⟨⟨_, X, rfl, hp, by rw [ht]; exact hP, hD⟩, hS.F ht⟩) hS.2.2 hd r.2.1))
theorem xw_vret (f : fx x R0 own cc Ts) {mc ms : Nat} {post : Option Value → va_W → Prop} (hd : decode cc pc = .ok (.return_, 1)) (r : re x none mc ms post) (h1 : k ≤ mc) (h2 : n ≤ ms) (hp : post none X): ww x X L k n pc [] :=
  fun H locs ls hP hD hS hl => W.widen h1 h2 (r.2.2 _ _ _ (W.vret f.1 f.2.1 r.1 (fun t ht hW => ⟨⟨_, X, rfl, hp, by rw [ht]; exact hP, hD⟩, hS.F ht⟩) hS.2.2 hd r.2.1))
theorem xw_aret (f : fx x R0 own cc Ts) {mc ms : Nat} {ty : FieldType} {post : Option Value → va_W → Prop} {v : Nat} (hd : decode cc pc = .ok (.areturn, 1)) (r : re x (some ty) mc ms post) (hty : (∃ n, ty = .object n) ∨ ∃ t, ty = .array t) (h1 : k ≤ mc) (h2 : n ≤ ms) (hp : post (some (.ref v)) X): ww x X L k n pc [.ref v] :=
  fun H locs ls hP hD hS hl => W.widen h1 h2 (r.2.2 _ _ _ (W.aret f.1 f.2.1 r.1 hty (Or.inr ⟨_, rfl⟩) (fun t ht hW => ⟨⟨_, X, rfl, hp, by rw [ht]; exact hP, hD⟩, hS.F ht⟩) hS.2.2 hd r.2.1))
end R8
