/-! methods with handlers -/
section R11
variable {x : Cx} {R0 : Room} {own : String} {cc : ByteArray} {Ts : List Cond} {X Xc Xr : va_W} {L : List (Nat × Value)} {k n pc i : Nat} {st rest : List Value}
variable {y : MethodName} {bytes : ByteArray} {maxL nA : Nat} {ret : Option FieldType} {ws ws' : List Cond} {rm : Room} {As : List Value} {post : Option Value → va_W → Prop}
theorem xw_catchA (f : fx x R0 own cc Ts) {a b h t : Nat} {hs : List (Nat × Nat × Nat × Nat)} (tb : (xc x).exceptionTable.toList = tableOf ((a, b, h, t) :: hs)) {E name : String} (hx : covers (⟨a, b, h, t⟩ : ExceptionTableEntry) pc = true) (h0 : t ≠ 0) (hl : Cond.classLink own t name ∈ Ts) (hc : va_Nw (.castable E name) (xs x))
    (kk : ∀ q : Nat, ww x X L k n h [.ref q]) : wx x X L k n pc E rest := fun H locs ls q ce hP hD hS hl' hq hv hcl =>
  vx_catch f.2.2.2.1 [] (⟨a, b, h, t⟩ : ExceptionTableEntry) (tableOf hs) (by rw [tb]; rfl) (fun z hz => by cases hz) hx h0 (f.2.2.2.2.1 _ hl) (va_Nw.use (A := xa x) rfl hc) hq hv hcl (kk q H locs ls hP hD hS hl')
theorem xw_catchB (f : fx x R0 own cc Ts) {a0 b0 i0 t0 a b h t : Nat} {hs : List (Nat × Nat × Nat × Nat)} (tb : (xc x).exceptionTable.toList = tableOf ((a0, b0, i0, t0) :: (a, b, h, t) :: hs)) {E name nm : String} (h00 : t0 ≠ 0) (hl0 : Cond.classLink own t0 nm ∈ Ts) (hn : va_Nc E nm (xs x)) (hx : covers (⟨a, b, h, t⟩ : ExceptionTableEntry) pc = true) (h0 : t ≠ 0) (hl : Cond.classLink own t name ∈ Ts) (hc : va_Nw (.castable E name) (xs x))
    (kk : ∀ q : Nat, ww x X L k n h [.ref q]) : wx x X L k n pc E rest := fun H locs ls q ce hP hD hS hl' hq hv hcl =>
  vx_catch f.2.2.2.1 [(⟨a0, b0, i0, t0⟩ : ExceptionTableEntry)] (⟨a, b, h, t⟩ : ExceptionTableEntry) (tableOf hs) (by rw [tb]; rfl) (fun z hz => by
    cases List.mem_singleton.mp hz
    exact Or.inr ⟨h00, nm, f.2.2.2.2.1 _ hl0, hn⟩) hx h0 (f.2.2.2.2.1 _ hl) (va_Nw.use (A := xa x) rfl hc) hq hv hcl (kk q H locs ls hP hD hS hl')
theorem cmW_of {l : Launch} {g : Gx} {y : MethodName} {ws ws' : List Cond} {rm : Room} {as : List Value} {X : va_W} {post : Option Value → va_W → Prop} {cc : ByteArray} {nL : Nat} {ret : Option FieldType} {hh : List (Nat × Nat × Nat × Nat)}
    (hy : plainName y.cls = true) (hw : ws = Cond.codeWith y cc nL ret hh :: ws') (hl : (lg_sl as).length ≤ nL)
    (body : ∀ x : Cx, fx x rm y.cls cc ws → xl x = l → xg x = g → xn x = nL → (xh x).name = y.name → re x ret rm.cells rm.slots post → (xc x).exceptionTable.toList = tableOf hh → ww x X (lv_args 0 as) 0 0 0 []) : cm l g y ws rm as X post := by
  intro sz
  refine va_MetW (cc := cc) (maxL := nL) (ret := ret) (hh := hh) hy hw ?_
  intro p e s m args below meth c s₁ B hml hv
  obtain ⟨rfl, hsz, hP, hK, hD0, ha⟩ := hv
  subst hsz
  have hts := atoms_spec (ws := ws) B.pre
  have htb := vx_table (x := y) B (hts _ (by rw [hw]; exact List.mem_cons_self))
  have K := body (p, l, e, rm, s, m, as.toArray, below, meth, c, g, va_A X s.heap.size, nL, MQ below (qq g (va_A X s.heap.size) post) as.toArray s rm.cells rm.slots (va_A X s.heap.size))
    ⟨B.exec, B.bytes, hml, findClass_of_methodNamed B.named, hts, hK, fun q h => Or.inr h, ha, rfl⟩ rfl rfl rfl (name_of_methodNamed B.named B.method).1 ⟨B.returns, B.notSynchronized, fun _ _ _ h => h⟩ htb
  have hle := lv_entry as hl
  rw [lg_entry_eq]
  generalize (lg_sl as ++ List.replicate (nL - (lg_sl as).length) Slot.unset).toArray = ls at hle ⊢
  exact K s.heap [] ls hP (hD0.self (sz := s.heap.size)) va_S.rf hle
theorem xw_callSW (f : fx x R0 own cc Ts) {hh : List (Nat × Nat × Nat × Nat)} (C : cm (xl x) (xg x) y ws rm As Xc post) (hT : GoodIn Ts (va_wsS own i y ws)) (hw : ws = Cond.codeWith y bytes maxL ret hh :: ws') (hn : As.length = nA) (hd3 : hA y nA) (hR : hRm rm R0 maxL k n) (hst : (rest.map fun v => v.category).sum ≤ 8) (hsb : sb X (Xc ++ Xr)) (hs : st = As.reverse ++ rest) (hd : decode cc pc = .ok (.invokestatic i, 3))
    (kk : ∀ (v : Option Value) (X1 : va_W), post v X1 → ww x (X1 ++ Xr) L (k + rm.cells) (n + rm.slots) (pc + 3) (v.toList ++ rest)) : ww x X L k n pc st := by
  subst hs
  have hR' := f.2.2.2.2.2.2.2.2
  refine xw_runM f hsb (fun H locs ls hP hD hS hl => vx_runSW (As := As) (rest := rest) (Ts := Ts) (own := own) (nL := xn x) ⟨f.1, f.2.1, f.2.2.1, f.2.2.2.1, f.2.2.2.2.1⟩ (C H.size) (vx_cwSW nA f.2.2.2.2.1 hT hw rfl rfl hd3 (by rw [hR']; exact hR.1)) ⟨pq_blind _ _ _ _, pq_of f hP hD hS As⟩ rfl hn hl.1 rfl (lv_room hst) hd (by rw [hR']; exact hR.2)) kk
end R11
