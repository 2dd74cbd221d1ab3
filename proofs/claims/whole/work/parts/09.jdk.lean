/-! rows for the library's code: the list, the constant strings -/
section RJ
variable {x : Cx} {R0 : Room} {own : String} {cc : ByteArray} {Ts : List Cond} {X : va_W} {L : List (Nat × Value)} {k n pc i : Nat} {st rest : List Value}
abbrev fav (f : fx x R0 own cc Ts) : av (xg x) (xs x) := f.2.2.2.2.2.2.2.1.1
abbrev fah (f : fx x R0 own cc Ts) : ah (xg x) (xA x) (xs x) (xs x).heap := f.2.2.2.2.2.2.2.1.2
theorem xw_getI (f : fx x R0 own cc Ts) {C ref : String} {T : u_T} {N ci i : Nat} {a : Nat} {fs : List Value} {v : Value} (hd : decode cc pc = .ok (.getfield i, 3)) (hin : ∀ w ∈ u_ws C T N, w ∈ Ts) (hc : vwCl[ci]? = some (C, T, N)) (j : Nat) (he : X[j]? = some (a, .inr (ci, fs))) (q : Nat) (hq : q < N) (hr : Cond.sameField ref (T q).1 (T q).2.1 (T q).2.2.1 ∈ Ts) (hw : Cond.fieldLink own i ref (T q).2.1 (T q).2.2.1 ∈ Ts) (hv : fs[q]? = some v)
    (kk : ww x X L k n (pc + 3) (v :: st)) : ww x X L k n pc (.ref a :: st) :=
  fun H locs ls hP hD hS hl => va_get f.1 f.2.1 f.2.2.2.2.1 hin f.2.2.2.1 f.2.2.2.2.2.1 hP j he hc q hq (f.2.2.2.2.1 _ hw) (fun _ h => u_same (f.2.2.2.2.1 _ hr) _ h) hv hd (kk H locs ls hP hD hS hl)
theorem xw_putI (f : fx x R0 own cc Ts) {C ref : String} {T : u_T} {N ci i : Nat} {ty0 : Nat → FieldType} {a : Nat} {fs : List Value} {v : Value} {ty : FieldType} (hd : decode cc pc = .ok (.putfield i, 3)) (hin : ∀ w ∈ u_ws C T N, w ∈ Ts) (hc : vwCl[ci]? = some (C, T, N)) (hty : ∀ k, k < N → parseFieldDescriptor (T k).2.2.1 = some (ty0 k)) (hnm : ∀ a, a < N → ∀ b, b < N → a ≠ b → (T a).2.1 ≠ (T b).2.1) (j : Nat) (he : X[j]? = some (a, .inr (ci, fs))) (q : Nat) (hq : q < N) (hr : Cond.sameField ref (T q).1 (T q).2.1 (T q).2.2.1 ∈ Ts) (hw : Cond.fieldLink own i ref (T q).2.1 (T q).2.2.1 ∈ Ts) (hfin : (T q).2.2.2 = false) (ht : ty0 q = ty) (hn : narrow ty v = v) (hfit : fits ty v = true) (hlen : q < fs.length) (X' : va_W) (hX : X.set j (a, .inr (ci, fs.set q v)) = X')
    (kk : ww x X' L k n (pc + 3) st) : ww x X L k n pc (v :: .ref a :: st) :=
  fun H locs ls hP hD hS hl => va_put f.1 f.2.1 f.2.2.2.2.1 hin ty0 hty hnm f.2.2.2.1 f.2.2.2.2.2.1 hP hD hS j he hc q hq (f.2.2.2.2.1 _ hw) (fun _ h => u_same (f.2.2.2.2.1 _ hr) _ h) hfin (by rw [hty q hq, ht]) hn hfit hlen hd (fun H locs hP hD hS => kk H locs ls (by rw [← hX]; exact hP) (by rw [← hX]; exact hD) hS hl)
theorem xw_gets (f : fx x R0 own cc Ts) {C nm d : String} {v : Value} (hZ : va_Z C nm d v (xA x) (xs x) (xs x).heap) (hw : Cond.fieldLink own i C nm d ∈ Ts) (hd : decode cc pc = .ok (.getstatic i, 3)) (kk : ww x X L k n (pc + 3) (v :: st)) : ww x X L k n pc st :=
  fun H locs ls hP hD hS hl => va_gets f.1 f.2.1 hZ hS f.2.2.2.1 (f.2.2.2.2.1 _ hw) (fun _ h => h) hd (kk H locs ls hP hD hS hl)
theorem xw_oald (f : fx x R0 own cc Ts) {a N : Nat} {f0 : Nat → Option Nat} {i : Int32} (hd : decode cc pc = .ok (.aaload, 1)) (j : Nat) (he : X[j]? = some (a, .inl (gO (xg x), N, .inr (.inr (.inr (.inr f0)))))) (hin : vp_in i N) (kk : ww x X L k n (pc + 1) (va_rf (f0 i.toNatClampNeg) :: st)) : ww x X L k n pc (.int i :: .ref a :: st) :=
  fun H locs ls hP hD hS hl => va_aldq f.1 f.2.1 f.2.2.2.2.2.1 hP j 3 he rfl hin hd (kk H locs ls hP hD hS hl)
theorem xw_oast (f : fx x R0 own cc Ts) {a N v : Nat} {f0 : Nat → Option Nat} {i : Int32} {vs : List Value} (hd : decode cc pc = .ok (.aastore, 1)) (j jv : Nat) (he : X[j]? = some (a, .inl (gO (xg x), N, .inr (.inr (.inr (.inr f0)))))) (hv : X[jv]? = some (v, .inr (5, vs))) (hin : vp_in i N) (X' : va_W) (hX : X.set j (a, .inl (gO (xg x), N, .inr (.inr (.inr (.inr (va_up f0 i.toNatClampNeg (some v))))))) = X')
    (kk : ww x X' L k n (pc + 1) st) : ww x X L k n pc (.ref v :: .int i :: .ref a :: st) :=
  fun H locs ls hP hD hS hl => va_astqO f.1 f.2.1 f.2.2.2.2.2.1 hP hD hS j 3 jv 5 he rfl (r := (RX4, TX4, 3)) ((fav f).1 _ (List.mem_of_getElem? (i := 4) rfl)) hv rfl hin hd (fun H locs hP hD hS => kk H locs ls (by rw [← hX]; exact hP) (by rw [← hX]; exact hD) hS hl)
theorem xw_newo (f : fx x R0 own cc Ts) {v : Int32} {N : Nat} (hw : Cond.classLink own i "java/lang/Object" ∈ Ts) (hn : ¬ v < 0) (hN : v.toNatClampNeg = N) (hb : N * 4 ≤ 536870912) (hk : k + 1 ≤ R0.cells) (hs : n + N ≤ R0.slots) (hd : decode cc pc = .ok (.anewarray i, 3))
    (kk : ∀ q : Nat, ww x (X ++ [(q, .inl (gO (xg x), N, .inr (.inr (.inr (.inr (fun _ => none))))))]) L (k + 1) (n + N) (pc + 3) (.ref q :: st)) : ww x X L k n pc (.int v :: st) := fun H locs ls hP hD hS hl => by
  have hK := f.2.2.2.2.2.1
  refine va_newq f.1 f.2.1 f.2.2.2.1 (f.2.2.2.2.1 _ hw) (fav f).2.2.2.2.2.2.2.2.2.2.2 hK hP hD hS f.2.2.2.2.2.2.1 hn hN hb (by rw [f.2.2.2.2.2.2.2.2]; exact hk) (by rw [f.2.2.2.2.2.2.2.2]; exact hs) hd (fun q cB H1 hK1 hP1 hD1 hS1 => ?_)
  have e1 := va_RA_find (hK.2 3 _ rfl).2
  have e2 := va_RA_find (hK1.2 4 (cB, .object "java/lang/Object") rfl).2
  have e : cB = gO (xg x) := Option.some.inj (e2.symm.trans e1)
  subst e
  exact kk q H1 locs ls hP1 hD1 hS1 hl
theorem xw_acmp_eq (f : fx x R0 own cc Ts) {a b : Nat} {o : Int} {tgt : Nat} (hd : decode cc pc = .ok (.if_acmp .eq o, 3)) (ht : (pc : Int) + o = (tgt : Int)) (kk : (a = b → ww x X L k n tgt st) ∧ (¬ a = b → ww x X L k n (pc + 3) st)) : ww x X L k n pc (.ref b :: .ref a :: st) :=
  fun H locs ls hP hD hS hl => lv_acmp_eq (rx := some a) (ry := some b) f.1 f.2.1 hd ht (fun z => kk.1 (Option.some.inj z) H locs ls hP hD hS hl) (fun z => kk.2 (fun e => z (by rw [e])) H locs ls hP hD hS hl)
theorem xw_acmp_ne (f : fx x R0 own cc Ts) {a b : Nat} {o : Int} {tgt : Nat} (hd : decode cc pc = .ok (.if_acmp .ne o, 3)) (ht : (pc : Int) + o = (tgt : Int)) (kk : (¬ a = b → ww x X L k n tgt st) ∧ (a = b → ww x X L k n (pc + 3) st)) : ww x X L k n pc (.ref b :: .ref a :: st) :=
  fun H locs ls hP hD hS hl => lv_acmp_ne (rx := some a) (ry := some b) f.1 f.2.1 hd ht (fun z => kk.1 (fun e => z (by rw [e])) H locs ls hP hD hS hl) (fun z => kk.2 (Option.some.inj z) H locs ls hP hD hS hl)
theorem xw_min (f : fx x R0 own cc Ts) {u v : Int32} (h1 : Cond.methodLink own i Lib.Math.min.name ∈ Ts) (h2 : Cond.static Lib.Math.min.name ∈ Ts) (h3 : Cond.initialized "java/lang/Math" ∈ Ts) (h4 : Cond.code Lib.Math.min.name Lib.Math.min.code 2 (some .int) ∈ Ts) (hR : (1 ≤ R0.frames ∧ 21 ≤ R0.locals) ∧ k ≤ R0.cells ∧ n ≤ R0.slots) (hst : (rest.map fun v => v.category).sum ≤ 8) (hd : decode cc pc = .ok (.invokestatic i, 3)) (kk : ww x X L k n (pc + 3) (.int (if v < u then v else u) :: rest)) : ww x X L k n pc (.int v :: .int u :: rest) :=
  fun H locs ls hP hD hS hl => va_mmin f.1 f.2.1 (by rw [f.2.2.1]; exact hl.1.symm) f.2.2.2.1 (f.2.2.2.2.1 _ h1) (f.2.2.2.2.1 _ h2) (f.2.2.2.2.1 _ h3) (f.2.2.2.2.1 _ h4) (by rw [f.2.2.2.2.2.2.2.2]; exact hR.1.1) (by rw [f.2.2.2.2.2.2.2.2]; have h9 := hR.1.2; omega) (by rw [f.2.2.2.2.2.2.2.2]; exact hR.2.1) (by rw [f.2.2.2.2.2.2.2.2]; exact hR.2.2) hd (kk H locs ls hP hD hS hl)
theorem xw_ldcM (f : fx x R0 own cc Ts) (hw : Cond.classLink own i "[Ljava/lang/Object;" ∈ Ts) (hd : decode cc pc = .ok (.ldc i, 2)) (kk : ww x X L k n (pc + 2) (.ref (gM (xg x) 0) :: st)) : ww x X L k n pc st :=
  fun H locs ls hP hD hS hl => va_ldcM f.1 f.2.1 f.2.2.2.1 (f.2.2.2.2.1 _ hw) (fav f).2.2.2.2.2.2.2.1 hd (kk H locs ls hP hD hS hl)
abbrev yGC : MethodName := ⟨"java/lang/Object", "getClass", "()Ljava/lang/Class;"⟩
theorem ge_arr {D : va_G} {H : Heap} {a : Nat} {g : Gx} {U : State} {y : vp_A} (hK : va_K D vwCl (TY g) U) (hP : va_P D vwCl X H) (j : Nat) (he : X[j]? = some (a, .inl (gO g, y))) : ∃ cell : Cell, H[a]? = some cell ∧ cell.vm.isStatics = false ∧ U.vm.findClass "[Ljava/lang/Object;" = some cell.cls := by
  have e : "[" ++ (FieldType.object "java/lang/Object").toString = "[Ljava/lang/Object;" := by decide +kernel
  have h := va_RA_find (hK.2 3 _ rfl).2
  rw [e] at h
  refine ⟨_, hP j _ he, ?_, ?_⟩
  · obtain ⟨n, f | f | f | f | f⟩ := y <;> rfl
  · rw [h]
    obtain ⟨n, f | f | f | f | f⟩ := y <;> rfl
theorem xw_getC (f : fx x R0 own cc Ts) {a : Nat} {y : vp_A} (j : Nat) (he : X[j]? = some (a, .inl (gO (xg x), y))) (h1 : Cond.methodLink own i yGC ∈ Ts) (h2 : Cond.selects "[Ljava/lang/Object;" yGC yGC ∈ Ts) (h3 : Cond.instanceMethod yGC ∈ Ts) (h4 : Cond.native yGC ∈ Ts) (hR : 1 ≤ R0.frames ∧ 22 ≤ R0.locals) (hst : (st.map fun v => v.category).sum ≤ 8) (hd : decode cc pc = .ok (.invokevirtual i, 3)) (kk : ww x X L k n (pc + 3) (.ref (gM (xg x) 0) :: st)) : ww x X L k n pc (.ref a :: st) :=
  fun H locs ls hP hD hS hl => va_getC f.1 f.2.1 (by rw [f.2.2.1]; exact hl.1.symm) f.2.2.2.1 (f.2.2.2.2.1 _ h1) (va_Dc.use (fav f).2.2.2.2.2.2.1) (f.2.2.2.2.1 _ h2) (f.2.2.2.2.1 _ h3) (f.2.2.2.2.1 _ h4) (fav f).2.2.2.2.2.2.2.1
    (ge_arr f.2.2.2.2.2.1 hP j he) (by rw [f.2.2.2.2.2.2.2.2]; exact hR.1) (by rw [f.2.2.2.2.2.2.2.2]; have h9 := hR.2; omega) hd (kk H locs ls hP hD hS hl)
theorem xw_copyo (f : fx x R0 own cc Ts) {a0 a1 n0 n1 : Nat} {g0 g1 : Nat → Option Nat} {sp dp m : Int32} (j0 j1 : Nat) (he0 : X[j0]? = some (a0, .inl (gO (xg x), n0, .inr (.inr (.inr (.inr g0)))))) (he1 : X[j1]? = some (a1, .inl (gO (xg x), n1, .inr (.inr (.inr (.inr g1)))))) (w1 : Cond.methodLink own i arraycopyName ∈ Ts) (w2 : Cond.native arraycopyName ∈ Ts) (w3 : Cond.static arraycopyName ∈ Ts) (w4 : Cond.initialized "java/lang/System" ∈ Ts)
    (h1 : ¬ sp < 0) (h2 : ¬ dp < 0) (h3 : ¬ m < 0) (h4 : sp.toNatClampNeg + m.toNatClampNeg ≤ n0) (h5 : dp.toNatClampNeg + m.toNatClampNeg ≤ n1) (hel : ∀ i : Nat, i < m.toNatClampNeg → ∀ y : Nat, g0 (sp.toNatClampNeg + i) = some y → ∃ (j : Nat) (vs : List Value), X[j]? = some (y, .inr (5, vs)))
    (hR : 1 ≤ R0.frames ∧ 60 ≤ R0.locals) (hst : (rest.map fun v => v.category).sum ≤ 8) (hd : decode cc pc = .ok (.invokestatic i, 3)) (X' : va_W) (hX : X.set j1 (a1, .inl (gO (xg x), n1, .inr (.inr (.inr (.inr (va_cpy g0 g1 sp.toNatClampNeg dp.toNatClampNeg m.toNatClampNeg)))))) = X')
    (kk : ww x X' L k n (pc + 3) rest) : ww x X L k n pc (.int m :: .int dp :: .ref a1 :: .int sp :: .ref a0 :: rest) :=
  fun H locs ls hP hD hS hl => va_copyq f.1 f.2.1 (by rw [f.2.2.1]; exact hl.1.symm) f.2.2.2.1 (f.2.2.2.2.1 _ w1) (f.2.2.2.2.1 _ w2) (f.2.2.2.2.1 _ w3) (f.2.2.2.2.1 _ w4) f.2.2.2.2.2.1 hP hD hS j0 j1 3 3 he0 he1 rfl rfl (C := RX4) h1 h2 h3 h4 h5
    (fun i hi y hy => by obtain ⟨j, vs, hj⟩ := hel i hi y hy; exact va_recv f.2.2.2.2.2.1 hP (ci := 5) rfl hj) (vb_asgC ((fav f).1 _ (List.mem_of_getElem? (i := 4) rfl))) (by rw [f.2.2.2.2.2.2.2.2]; exact hR.1) (by rw [f.2.2.2.2.2.2.2.2]; have h9 := hR.2; have h8 : nativeFrameWords "java/lang/System" "arraycopy" 5 + 11 ≤ 52 := (by decide +kernel); omega) hd (fun H locs hP hD hS => kk H locs ls (by rw [← hX]; exact hP) (by rw [← hX]; exact hD) hS hl)
theorem xw_tlen0 (f : fx x R0 own cc Ts) (hd : decode cc pc = .ok (.arraylength, 1)) (kk : ww x X L k n (pc + 1) (.int 0 :: st)) : ww x X L k n pc (.ref (gM (xg x) 1) :: st) :=
  fun H locs ls hP hD hS hl => va_tlen f.1 f.2.1 (fah f).2.2.2.2.1 hS rfl hd (kk H locs ls hP hD hS hl)
/-! the constant strings -/
theorem xw_kcod (f : fx x R0 own cc Ts) {q : Nat} (hq : q < 3) (hw : Cond.fieldLink own i "java/lang/String" "coder" "B" ∈ Ts) (hd : decode cc pc = .ok (.getfield i, 3)) (kk : ww x X L k n (pc + 3) (.int 0 :: st)) : ww x X L k n pc (.ref (gK (xg x) q) :: st) :=
  fun H locs ls hP hD hS hl => vk_getf f.1 f.2.1 ((fah f).2.2.2.2.2.1 q hq).2.1 hS f.2.2.2.1 (f.2.2.2.2.1 _ hw) (fun _ h => h) hd (kk H locs ls hP hD hS hl)
theorem xw_kval (f : fx x R0 own cc Ts) {q : Nat} (hq : q < 3) (hw : Cond.fieldLink own i "java/lang/String" "value" "[B" ∈ Ts) (hd : decode cc pc = .ok (.getfield i, 3)) (kk : ww x X L k n (pc + 3) (.ref (gV (xg x) q) :: st)) : ww x X L k n pc (.ref (gK (xg x) q) :: st) :=
  fun H locs ls hP hD hS hl => vk_getf f.1 f.2.1 ((fah f).2.2.2.2.2.1 q hq).2.2.1 hS f.2.2.2.1 (f.2.2.2.2.1 _ hw) (fun _ h => h) hd (kk H locs ls hP hD hS hl)
def kln (q : Nat) : Nat := nKlen.getD q 0
def kby (q j : Nat) : Int32 := (nKbyt.getD q []).getD j 0
theorem xw_klen (f : fx x R0 own cc Ts) {q : Nat} (hq : q < 3) (hd : decode cc pc = .ok (.arraylength, 1)) (kk : ww x X L k n (pc + 1) (.int (Int32.ofNat (kln q)) :: st)) : ww x X L k n pc (.ref (gV (xg x) q) :: st) :=
  fun H locs ls hP hD hS hl => va_tlen f.1 f.2.1 ((fah f).2.2.2.2.2.1 q hq).2.2.2 hS rfl hd (kk H locs ls hP hD hS hl)
theorem xw_kbld (f : fx x R0 own cc Ts) {q : Nat} {i : Int32} (hq : q < 3) (hd : decode cc pc = .ok (.baload, 1)) (hin : vp_in i (kln q)) (kk : ww x X L k n (pc + 1) (.int (kby q i.toNatClampNeg) :: st)) : ww x X L k n pc (.int i :: .ref (gV (xg x) q) :: st) :=
  fun H locs ls hP hD hS hl => va_tb f.1 f.2.1 ((fah f).2.2.2.2.2.1 q hq).2.2.2 hS hin rfl hd (kk H locs ls hP hD hS hl)
theorem xw_ldcS (f : fx x R0 own cc Ts) {tx : String} {a : Nat} (hZ : vk_R own i tx a (xs x)) (hd : decode cc pc = .ok (.ldc i, 2)) (kk : ww x X L k n (pc + 2) (.ref a :: st)) : ww x X L k n pc st :=
  fun H locs ls hP hD hS hl => va_ldcS f.1 f.2.1 f.2.2.2.1 hZ hd (kk H locs ls hP hD hS hl)
end RJ
section RJ2
variable {x : Cx} {R0 : Room} {own : String} {cc : ByteArray} {Ts : List Cond} {X Xc Xr : va_W} {L : List (Nat × Value)} {k n pc i : Nat} {st rest : List Value}
variable {y : MethodName} {bytes : ByteArray} {maxL nA : Nat} {ret : Option FieldType} {ws ws' : List Cond} {rm : Room} {As : List Value} {post : Option Value → va_W → Prop}
/-- a method of a constant string -/
theorem xw_callK (f : fx x R0 own cc Ts) {q : Nat} (hq : q < 3) (C : cm (xl x) (xg x) y ws rm (.ref (gK (xg x) q) :: As) Xc post) (hT : GoodIn Ts (wsV own i RJ0 y ws)) (hw : ws = Cond.code y bytes maxL ret :: ws') (hcl : y.cls = RJ0) (hn : As.length = nA) (hd3 : hA y nA) (hR : hRm rm R0 maxL k n) (hst : (rest.map fun v => v.category).sum ≤ 8) (hsb : sb X (Xc ++ Xr)) (hs : st = As.reverse ++ .ref (gK (xg x) q) :: rest) (hd : decode cc pc = .ok (.invokevirtual i, 3))
    (kk : ∀ (v : Option Value) (X1 : va_W), post v X1 → ww x (X1 ++ Xr) L (k + rm.cells) (n + rm.slots) (pc + 3) (v.toList ++ rest)) : ww x X L k n pc st := by
  subst hs
  have hR' := f.2.2.2.2.2.2.2.2
  refine xw_runM f hsb (fun H locs ls hP hD hS hl => va_runV (C := RJ0) (As := As) (rest := rest) (Ts := Ts) (own := own) (nL := xn x) ⟨f.1, f.2.1, f.2.2.1, f.2.2.2.1, f.2.2.2.2.1⟩ (C H.size) (cwV nA f.2.2.2.2.1 hT hw rfl rfl ⟨hcl, hd3⟩ (by rw [hR']; exact hR.1)) ⟨pq_blind _ _ _ _, vk_recv (f.2.2.2.2.2.2.2.1.2.2.2.2.2.2) hq hS, pq_of f hP hD hS (.ref (gK (xg x) q) :: As)⟩ rfl hn hl.1 rfl (lv_room hst) hd (by rw [hR']; exact hR.2)) kk
end RJ2
