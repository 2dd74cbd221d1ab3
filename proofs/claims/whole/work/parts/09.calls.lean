/-! calls over ww: the callee's cells Xc cut out, the others Xr beside them -/
section R9
variable {x : Cx} {R0 : Room} {own : String} {cc : ByteArray} {Ts : List Cond} {X Xc Xr : va_W} {L : List (Nat × Value)} {k n pc i : Nat} {st rest : List Value}
variable {y : MethodName} {bytes : ByteArray} {maxL nA : Nat} {ret : Option FieldType} {ws ws' : List Cond} {rm : Room} {As : List Value} {post : Option Value → va_W → Prop} {postX : String → va_W → Prop}
theorem sw_free {A : Nat → Prop} {H0 H : Heap} {locs : List Loc} (hD : va_D A (Xc ++ Xr)) (hS : va_S A H0 H locs) (hA : ∀ q, H0.size ≤ q → A q) : ∀ q, va_A Xc H.size q → A q := by
  intro q h
  rcases h with ⟨k, e, h⟩ | h
  · exact hD.2 k (q, e) (by rw [List.getElem?_append_left (List.getElem?_eq_some_iff.mp h).1]; exact h)
  · exact hA q (Nat.le_trans hS.1 h)
theorem sw_join {A : Nat → Prop} {D : va_G} {X1 : va_W} {H H1 : Heap} (hP : va_P D vwCl (Xc ++ Xr) H) (hD : va_D A (Xc ++ Xr)) (hF : ∀ q, va_A Xc H.size q → A q) (hk : ∀ q : Nat, q < H.size → ¬ va_A Xc H.size q → H1[q]? = H[q]?) (hP1 : va_P D vwCl X1 H1) (hD1 : va_D (va_A Xc H.size) X1) :
    va_P D vwCl (X1 ++ Xr) H1 ∧ va_D A (X1 ++ Xr) := by
  have at' : ∀ (j : Nat) (q : Nat × va_E), Xr[j]? = some q → (Xc ++ Xr)[Xc.length + j]? = some q := fun j q hq => by
    rw [List.getElem?_append_right (by omega), Nat.add_sub_cancel_left]; exact hq
  have apart : ∀ (j : Nat) (q : Nat × va_E), Xr[j]? = some q → q.1 < H.size ∧ ¬ va_A Xc H.size q.1 := by
    intro j q hq
    have hl := (hP _ q (at' j q hq)).lt
    refine ⟨hl, fun h => ?_⟩
    rcases h with ⟨k2, e, h⟩ | h
    · have hk2 := (List.getElem?_eq_some_iff.mp h).1
      have h3 : (Xc ++ Xr)[k2]? = some (q.1, e) := by rw [List.getElem?_append_left hk2]; exact h
      have := hD.1 _ _ q (q.1, e) (at' j q hq) h3 rfl
      omega
    · omega
  refine ⟨va_P.app hP1 (fun j q hq => ?_), va_D.app (hD1.weaken (fun k q _ h => hF q.1 h)) ⟨fun i j p q hi hj e => ?_, fun j q hq => hD.2 _ q (at' j q hq)⟩ (fun i j p q hp hq e => ?_)⟩
  · obtain ⟨g1, g2⟩ := apart j q hq
    exact (hP _ q (at' j q hq)).kept (hk q.1 g1 g2)
  · have := hD.1 _ _ p q (at' i p hi) (at' j q hj) e
    omega
  · exact (apart j q hq).2 (by rw [← e]; exact hD1.2 i p hp)
theorem pq_of (f : fx x R0 own cc Ts) {H : Heap} {locs : List Loc} (hP : va_P (gD (xg x)) vwCl (Xc ++ Xr) H) (hD : va_D (xA x) (Xc ++ Xr)) (hS : va_S (xA x) (xs x).heap H locs) (as : List Value) : ∀ U : State, U.heap = H → (xs x).WarmedH U.vm → pq (xg x) H.size as Xc as.toArray U := by
  intro U hU hW
  have ge : ∀ (k : Nat) (q : Nat × va_E), Xc[k]? = some q → (Xc ++ Xr)[k]? = some q := fun k q hk => by rw [List.getElem?_append_left (List.getElem?_eq_some_iff.mp hk).1]; exact hk
  refine ⟨rfl, by rw [hU], by rw [hU]; exact fun k q hk => hP k q (ge k q hk), va_K.moved hW.alike f.2.2.2.2.2.1, ⟨fun i j p q hi hj e => hD.1 i j p q (ge i p hi) (ge j q hj) e, fun _ _ _ => trivial⟩, ?_⟩
  rw [hU]
  exact ((am.moved hW f.2.2.2.2.2.2.2.1).kept hS.2.1).narrow (sw_free hD hS f.2.2.2.2.2.2.1)
theorem xw_runM (f : fx x R0 own cc Ts) (hsb : sb X (Xc ++ Xr)) {mc ms : Nat} {a : Array Value} (hr : ∀ (H : Heap) (locs : List Loc) (ls : Array Slot), va_P (gD (xg x)) vwCl (Xc ++ Xr) H → va_D (xA x) (Xc ++ Xr) → va_S (xA x) (xs x).heap H locs → lv_has ls (xn x) L → va_Run (xp x) (xl x) (xe x) (xR x) (xs x) (xm x) (xa x) (xb x) (xh x) (xc x) H locs k n mc ms (F0 (xm x) pc ls st) rest (qq (xg x) (va_A Xc H.size) post a) (va_A Xc H.size))
    (kk : ∀ (v : Option Value) (X1 : va_W), post v X1 → ww x (X1 ++ Xr) L (k + mc) (n + ms) (pc + 3) (v.toList ++ rest)) : ww x X L k n pc st := by
  intro H locs ls hP0 hD0 hS hl T hT Y
  have hP := hsb.P hP0
  have hD := hsb.D hD0
  obtain ⟨v, st₀, t, T', L9, h0, Y', hL, e1, e2, ⟨⟨v', X1, hv, hp, hP1, hD1⟩, hz, hk⟩, stp⟩ := hr H locs ls hP hD hS hl T hT Y
  cases hv
  rw [h0] at hz hk
  have hF := sw_free hD hS f.2.2.2.2.2.2.1
  obtain ⟨hP2, hD2⟩ := sw_join hP hD hF hk hP1 hD1
  obtain ⟨t2, a1, b1⟩ := kk _ X1 hp T'.heap (locs ++ L9) ls (by rw [e1]; exact hP2) hD2 ⟨Nat.le_trans hS.1 (by rw [e1]; exact hz), fun q h1 h2 => by rw [e1, hk q (Nat.lt_of_lt_of_le h1 hS.1) (fun z => h2 (hF q z))]; exact hS.2.1 q h1 h2, fun q hq => by
      rcases List.mem_append.mp hq with h | h
      · exact hS.2.2 q h
      · exact hF _ (hL q h)⟩ hl T' rfl Y'
  exact ⟨t2, stp t2 a1, b1⟩
theorem xw_run5 (f : fx x R0 own cc Ts) (hsb : sb X (Xc ++ Xr)) {mc ms : Nat} {a : Array Value} (hr : ∀ (H : Heap) (locs : List Loc) (ls : Array Slot), va_P (gD (xg x)) vwCl (Xc ++ Xr) H → va_D (xA x) (Xc ++ Xr) → va_S (xA x) (xs x).heap H locs → lv_has ls (xn x) L → va_Run5 (xp x) (xl x) (xe x) (xR x) (xs x) (xm x) (xa x) (xb x) (xh x) (xc x) H locs k n mc ms (F0 (xm x) pc ls st) rest (qq (xg x) (va_A Xc H.size) post a) (va_A Xc H.size))
    (kk : ∀ (v : Option Value) (X1 : va_W), post v X1 → ww x (X1 ++ Xr) L (k + mc) (n + ms) (pc + 5) (v.toList ++ rest)) : ww x X L k n pc st := by
  intro H locs ls hP0 hD0 hS hl T hT Y
  have hP := hsb.P hP0
  have hD := hsb.D hD0
  obtain ⟨v, st₀, t, T', L9, h0, Y', hL, e1, e2, ⟨⟨v', X1, hv, hp, hP1, hD1⟩, hz, hk⟩, stp⟩ := hr H locs ls hP hD hS hl T hT Y
  cases hv
  rw [h0] at hz hk
  have hF := sw_free hD hS f.2.2.2.2.2.2.1
  obtain ⟨hP2, hD2⟩ := sw_join hP hD hF hk hP1 hD1
  obtain ⟨t2, a1, b1⟩ := kk _ X1 hp T'.heap (locs ++ L9) ls (by rw [e1]; exact hP2) hD2 ⟨Nat.le_trans hS.1 (by rw [e1]; exact hz), fun q h1 h2 => by rw [e1, hk q (Nat.lt_of_lt_of_le h1 hS.1) (fun z => h2 (hF q z))]; exact hS.2.1 q h1 h2, fun q hq => by
      rcases List.mem_append.mp hq with h | h
      · exact hS.2.2 q h
      · exact hF _ (hL q h)⟩ hl T' rfl Y'
  exact ⟨t2, stp t2 a1, b1⟩
theorem xw_runX (f : fx x R0 own cc Ts) (hsb : sb X (Xc ++ Xr)) {mc ms : Nat} {a : Array Value} (hr : ∀ (H : Heap) (locs : List Loc) (ls : Array Slot), va_P (gD (xg x)) vwCl (Xc ++ Xr) H → va_D (xA x) (Xc ++ Xr) → va_S (xA x) (xs x).heap H locs → lv_has ls (xn x) L → vx_Run (xp x) (xl x) (xe x) (xR x) (xs x) (xm x) (xa x) (xb x) (xh x) (xc x) H locs k n mc ms (F0 (xm x) pc ls st) rest (qq (xg x) (va_A Xc H.size) post a) (qx (xg x) (va_A Xc H.size) postX) (va_A Xc H.size))
    (kk : ∀ (v : Option Value) (X1 : va_W), post v X1 → ww x (X1 ++ Xr) L (k + mc) (n + ms) (pc + 3) (v.toList ++ rest)) (kx : ∀ (E : String) (X1 : va_W), postX E X1 → wx x (X1 ++ Xr) L (k + mc) (n + ms) pc E rest) : ww x X L k n pc st := by
  intro H locs ls hP0 hD0 hS hl T hT Y
  have hP := hsb.P hP0
  have hD := hsb.D hD0
  have hF := sw_free hD hS f.2.2.2.2.2.2.1
  rcases hr H locs ls hP hD hS hl T hT Y with ⟨v, st₀, t, T', L9, h0, Y', hL, e1, e2, ⟨⟨v', X1, hv, hp, hP1, hD1⟩, hz, hk⟩, stp⟩ | ⟨q9, st₀, t, T', L9, E, ce9, h0, Y', hL, e1, e2, ⟨X1, hp, hP1, hD1, hz, hk⟩, hce, hcv, hcl, stp⟩
  · cases hv
    rw [h0] at hz hk
    obtain ⟨hP2, hD2⟩ := sw_join hP hD hF hk hP1 hD1
    obtain ⟨t2, a1, b1⟩ := kk _ X1 hp T'.heap (locs ++ L9) ls (by rw [e1]; exact hP2) hD2 ⟨Nat.le_trans hS.1 (by rw [e1]; exact hz), fun q h1 h2 => by rw [e1, hk q (Nat.lt_of_lt_of_le h1 hS.1) (fun z => h2 (hF q z))]; exact hS.2.1 q h1 h2, fun q hq => by
        rcases List.mem_append.mp hq with h | h
        · exact hS.2.2 q h
        · exact hF _ (hL q h)⟩ hl T' rfl Y'
    exact ⟨t2, stp t2 a1, b1⟩
  · rw [h0] at hz hk
    obtain ⟨hP2, hD2⟩ := sw_join hP hD hF hk hP1 hD1
    obtain ⟨t2, a1, b1⟩ := kx E X1 hp T'.heap (locs ++ L9) ls q9 ce9 (by rw [e1]; exact hP2) hD2 ⟨Nat.le_trans hS.1 (by rw [e1]; exact hz), fun q h1 h2 => by rw [e1, hk q (Nat.lt_of_lt_of_le h1 hS.1) (fun z => h2 (hF q z))]; exact hS.2.1 q h1 h2, fun q hq => by
        rcases List.mem_append.mp hq with h | h
        · exact hS.2.2 q h
        · exact hF _ (hL q h)⟩ hl (by rw [e1]; exact hce) hcv hcl T' rfl Y'
    exact ⟨t2, stp.trans a1, b1⟩
abbrev hA (y : MethodName) (nA : Nat) : Prop := y.cls ≠ "java/lang/invoke/MethodHandle" ∧ y.cls ≠ "java/lang/invoke/VarHandle" ∧ (parseMethodDescriptor y.desc).map (fun d => d.parameters.length) = some nA
abbrev hRm (rm R0 : Room) (maxL k n : Nat) : Prop := (rm.frames + 1 ≤ R0.frames ∧ 8 + (maxL + 11) + rm.locals ≤ R0.locals) ∧ k + rm.cells ≤ R0.cells ∧ n + rm.slots ≤ R0.slots
theorem xw_callS (f : fx x R0 own cc Ts) (C : cm (xl x) (xg x) y ws rm As Xc post) (hT : GoodIn Ts (va_wsS own i y ws)) (hw : ws = Cond.code y bytes maxL ret :: ws') (hn : As.length = nA) (hd3 : hA y nA) (hR : hRm rm R0 maxL k n) (hst : (rest.map fun v => v.category).sum ≤ 8) (hsb : sb X (Xc ++ Xr)) (hs : st = As.reverse ++ rest) (hd : decode cc pc = .ok (.invokestatic i, 3))
    (kk : ∀ (v : Option Value) (X1 : va_W), post v X1 → ww x (X1 ++ Xr) L (k + rm.cells) (n + rm.slots) (pc + 3) (v.toList ++ rest)) : ww x X L k n pc st := by
  subst hs
  have hR' := f.2.2.2.2.2.2.2.2
  refine xw_runM f hsb (fun H locs ls hP hD hS hl => va_runS (As := As) (rest := rest) (Ts := Ts) (own := own) (nL := xn x) ⟨f.1, f.2.1, f.2.2.1, f.2.2.2.1, f.2.2.2.2.1⟩ (C H.size) (va_cwS nA f.2.2.2.2.1 hT hw rfl rfl hd3 (by rw [hR']; exact hR.1)) ⟨pq_blind _ _ _ _, pq_of f hP hD hS As⟩ rfl hn hl.1 rfl (lv_room hst) hd (by rw [hR']; exact hR.2)) kk
theorem xw_callSX (f : fx x R0 own cc Ts) (C : ce (xl x) (xg x) y ws rm As Xc post postX) (hT : GoodIn Ts (va_wsS own i y ws)) (hw : ws = Cond.code y bytes maxL ret :: ws') (hn : As.length = nA) (hd3 : hA y nA) (hR : hRm rm R0 maxL k n) (hst : (rest.map fun v => v.category).sum ≤ 8) (hsb : sb X (Xc ++ Xr)) (hs : st = As.reverse ++ rest) (hd : decode cc pc = .ok (.invokestatic i, 3))
    (kk : ∀ (v : Option Value) (X1 : va_W), post v X1 → ww x (X1 ++ Xr) L (k + rm.cells) (n + rm.slots) (pc + 3) (v.toList ++ rest)) (kx : ∀ (E : String) (X1 : va_W), postX E X1 → wx x (X1 ++ Xr) L (k + rm.cells) (n + rm.slots) pc E rest) : ww x X L k n pc st := by
  subst hs
  have hR' := f.2.2.2.2.2.2.2.2
  refine xw_runX f hsb (fun H locs ls hP hD hS hl => vx_runS (As := As) (rest := rest) (Ts := Ts) (own := own) (nL := xn x) ⟨f.1, f.2.1, f.2.2.1, f.2.2.2.1, f.2.2.2.2.1⟩ (C H.size) (va_cwS nA f.2.2.2.2.1 hT hw rfl rfl hd3 (by rw [hR']; exact hR.1)) ⟨pq_blind _ _ _ _, pq_of f hP hD hS As⟩ rfl hn hl.1 rfl (lv_room hst) hd (by rw [hR']; exact hR.2)) kk kx
theorem xw_recv (f : fx x R0 own cc Ts) {C : String} {T : u_T} {N ci a : Nat} {fs : List Value} {H : Heap} (hc : vwCl[ci]? = some (C, T, N)) (h0 : (Xc ++ Xr)[0]? = some (a, .inr (ci, fs))) (hP : va_P (gD (xg x)) vwCl (Xc ++ Xr) H) : ∃ cell : Cell, H[a]? = some cell ∧ cell.vm.isStatics = false ∧ (xs x).vm.findClass C = some cell.cls := va_recv f.2.2.2.2.2.1 hP hc h0
theorem xw_callV (f : fx x R0 own cc Ts) {C0 : String} {T : u_T} {N ci a : Nat} {fs : List Value} (C : cm (xl x) (xg x) y ws rm (.ref a :: As) Xc post) (hT : GoodIn Ts (wsV own i C0 y ws)) (hw : ws = Cond.code y bytes maxL ret :: ws') (hcl : y.cls = C0) (hn : As.length = nA) (hd3 : hA y nA) (hR : hRm rm R0 maxL k n) (hst : (rest.map fun v => v.category).sum ≤ 8) (hc : vwCl[ci]? = some (C0, T, N)) (h0 : (Xc ++ Xr)[0]? = some (a, .inr (ci, fs))) (hsb : sb X (Xc ++ Xr)) (hs : st = As.reverse ++ .ref a :: rest) (hd : decode cc pc = .ok (.invokevirtual i, 3))
    (kk : ∀ (v : Option Value) (X1 : va_W), post v X1 → ww x (X1 ++ Xr) L (k + rm.cells) (n + rm.slots) (pc + 3) (v.toList ++ rest)) : ww x X L k n pc st := by
  subst hs
  have hR' := f.2.2.2.2.2.2.2.2
  refine xw_runM f hsb (fun H locs ls hP hD hS hl => va_runV (C := C0) (As := As) (rest := rest) (Ts := Ts) (own := own) (nL := xn x) ⟨f.1, f.2.1, f.2.2.1, f.2.2.2.1, f.2.2.2.2.1⟩ (C H.size) (cwV nA f.2.2.2.2.1 hT hw rfl rfl ⟨hcl, hd3⟩ (by rw [hR']; exact hR.1)) ⟨pq_blind _ _ _ _, xw_recv f hc h0 hP, pq_of f hP hD hS (.ref a :: As)⟩ rfl hn hl.1 rfl (lv_room hst) hd (by rw [hR']; exact hR.2)) kk
theorem xw_callVX (f : fx x R0 own cc Ts) {C0 : String} {T : u_T} {N ci a : Nat} {fs : List Value} (C : ce (xl x) (xg x) y ws rm (.ref a :: As) Xc post postX) (hT : GoodIn Ts (wsV own i C0 y ws)) (hw : ws = Cond.code y bytes maxL ret :: ws') (hcl : y.cls = C0) (hn : As.length = nA) (hd3 : hA y nA) (hR : hRm rm R0 maxL k n) (hst : (rest.map fun v => v.category).sum ≤ 8) (hc : vwCl[ci]? = some (C0, T, N)) (h0 : (Xc ++ Xr)[0]? = some (a, .inr (ci, fs))) (hsb : sb X (Xc ++ Xr)) (hs : st = As.reverse ++ .ref a :: rest) (hd : decode cc pc = .ok (.invokevirtual i, 3))
    (kk : ∀ (v : Option Value) (X1 : va_W), post v X1 → ww x (X1 ++ Xr) L (k + rm.cells) (n + rm.slots) (pc + 3) (v.toList ++ rest)) (kx : ∀ (E : String) (X1 : va_W), postX E X1 → wx x (X1 ++ Xr) L (k + rm.cells) (n + rm.slots) pc E rest) : ww x X L k n pc st := by
  subst hs
  have hR' := f.2.2.2.2.2.2.2.2
  refine xw_runX f hsb (fun H locs ls hP hD hS hl => vx_runV (C := C0) (As := As) (rest := rest) (Ts := Ts) (own := own) (nL := xn x) ⟨f.1, f.2.1, f.2.2.1, f.2.2.2.1, f.2.2.2.2.1⟩ (C H.size) (cwV nA f.2.2.2.2.1 hT hw rfl rfl ⟨hcl, hd3⟩ (by rw [hR']; exact hR.1)) ⟨pq_blind _ _ _ _, xw_recv f hc h0 hP, pq_of f hP hD hS (.ref a :: As)⟩ rfl hn hl.1 rfl (lv_room hst) hd (by rw [hR']; exact hR.2)) kk kx
/-- a constructor of a class of ours, linked plainly -/
theorem xw_callI (f : fx x R0 own cc Ts) {a : Nat} (C : cm (xl x) (xg x) y ws rm (.ref a :: As) Xc post) (hG : GoodIn Ts ws) (hw : ws = Cond.code y bytes maxL none :: ws') (hi : Cond.initialized y.cls ∈ Ts) (hl1 : Cond.methodLink own i y ∈ Ts) (hi2 : Cond.instanceMethod y ∈ Ts) (hy : y.name = "<init>") (hn : As.length = nA) (hd3 : hA y nA) (hR : hRm rm R0 maxL k n) (hst : (rest.map fun v => v.category).sum ≤ 8) (hsb : sb X (Xc ++ Xr)) (hs : st = As.reverse ++ .ref a :: rest) (hd : decode cc pc = .ok (.invokespecial i, 3))
    (kk : ∀ (v : Option Value) (X1 : va_W), post v X1 → ww x (X1 ++ Xr) L (k + rm.cells) (n + rm.slots) (pc + 3) (v.toList ++ rest)) : ww x X L k n pc st := by
  subst hs
  have hR' := f.2.2.2.2.2.2.2.2
  refine xw_runM f hsb (fun H locs ls hP hD hS hl => va_runI (As := As) (rest := rest) (Ts := Ts) (own := own) (nL := xn x) ⟨f.1, f.2.1, f.2.2.1, f.2.2.2.1, f.2.2.2.2.1⟩ (C H.size) (cwI nA f.2.2.2.2.1 hG hw rfl rfl (f.2.2.2.2.1 _ hi) (f.2.2.2.2.1 _ hl1) (f.2.2.2.2.1 _ hi2) hy hd3 (by rw [hR']; exact hR.1)) ⟨pq_blind _ _ _ _, pq_of f hP hD hS (.ref a :: As)⟩ rfl hn hl.1 rfl (lv_room hst) hd (by rw [hR']; exact hR.2)) kk
/-- .. of a nest mate, private -/
theorem xw_callIN (f : fx x R0 own cc Ts) {a : Nat} (C : cm (xl x) (xg x) y ws rm (.ref a :: As) Xc post) (hG : GoodIn Ts ws) (hw : ws = Cond.code y bytes maxL none :: ws') (hi : Cond.initialized y.cls ∈ Ts) (hl1 : (own, i, y) ∈ nM) (hi2 : Cond.instanceMethod y ∈ Ts) (hy : y.name = "<init>") (hn : As.length = nA) (hd3 : hA y nA) (hR : hRm rm R0 maxL k n) (hst : (rest.map fun v => v.category).sum ≤ 8) (hsb : sb X (Xc ++ Xr)) (hs : st = As.reverse ++ .ref a :: rest) (hd : decode cc pc = .ok (.invokespecial i, 3))
    (kk : ∀ (v : Option Value) (X1 : va_W), post v X1 → ww x (X1 ++ Xr) L (k + rm.cells) (n + rm.slots) (pc + 3) (v.toList ++ rest)) : ww x X L k n pc st := by
  subst hs
  have hR' := f.2.2.2.2.2.2.2.2
  refine xw_runM f hsb (fun H locs ls hP hD hS hl => va_runIN (As := As) (rest := rest) (Ts := Ts) (own := own) (nL := xn x) ⟨f.1, f.2.1, f.2.2.1, f.2.2.2.1, f.2.2.2.2.1⟩ (C H.size) ⟨va_cnB nA f.2.2.2.2.1 hG hw rfl rfl (f.2.2.2.2.2.2.2.1.1.2.2.1 _ hl1) (f.2.2.2.2.1 _ hi) hd3 (by rw [hR']; exact hR.1), hy, f.2.2.2.2.1 _ hi2⟩ ⟨pq_blind _ _ _ _, pq_of f hP hD hS (.ref a :: As)⟩ rfl hn hl.1 rfl (lv_room hst) hd (by rw [hR']; exact hR.2)) kk
theorem xw_objInit (f : fx x R0 own cc Ts) {a : Nat} (h1 : Cond.methodLink own i objectInit ∈ Ts) (h2 : Cond.instanceMethod objectInit ∈ Ts) (h3 : Cond.code objectInit ⟨#[0xb1]⟩ 1 none ∈ Ts) (hR : 1 ≤ R0.frames ∧ 24 ≤ R0.locals) (hst : (rest.map fun v => v.category).sum ≤ 8) (hd : decode cc pc = .ok (.invokespecial i, 3)) (kk : ww x X L k n (pc + 3) rest) : ww x X L k n pc (.ref a :: rest) :=
  fun H locs ls hP hD hS hl => W.objInit f.1 f.2.1 f.2.2.2.1 (f.2.2.2.2.1 _ h1) (f.2.2.2.2.1 _ h2) (f.2.2.2.2.1 _ h3) rfl (by rw [f.2.2.1]; exact hl.1) rfl hd (by rw [f.2.2.2.2.2.2.2.2]; exact hR.1) (by rw [f.2.2.2.2.2.2.2.2]; have h8 := lv_room (m := xm x) (pc := pc) (ls := ls) (rest := .ref a :: rest) hst; have h9 := hR.2; omega) (kk H locs ls hP hD hS hl)
/-- Math.max of two ints -/
theorem xw_max (f : fx x R0 own cc Ts) {u v : Int32} (h1 : Cond.methodLink own i Lib.Math.max.name ∈ Ts) (h2 : Cond.static Lib.Math.max.name ∈ Ts) (h3 : Cond.initialized "java/lang/Math" ∈ Ts) (h4 : Cond.code Lib.Math.max.name Lib.Math.max.code 2 (some .int) ∈ Ts) (hR : (1 ≤ R0.frames ∧ 21 ≤ R0.locals) ∧ k ≤ R0.cells ∧ n ≤ R0.slots) (hst : (rest.map fun v => v.category).sum ≤ 8) (hd : decode cc pc = .ok (.invokestatic i, 3)) (kk : ww x X L k n (pc + 3) (.int (if u < v then v else u) :: rest)) : ww x X L k n pc (.int v :: .int u :: rest) :=
  fun H locs ls hP hD hS hl => va_mmax f.1 f.2.1 (by rw [f.2.2.1]; exact hl.1.symm) f.2.2.2.1 (f.2.2.2.2.1 _ h1) (f.2.2.2.2.1 _ h2) (f.2.2.2.2.1 _ h3) (f.2.2.2.2.1 _ h4) (by rw [f.2.2.2.2.2.2.2.2]; exact hR.1.1) (by rw [f.2.2.2.2.2.2.2.2]; have h9 := hR.1.2; omega) (by rw [f.2.2.2.2.2.2.2.2]; exact hR.2.1) (by rw [f.2.2.2.2.2.2.2.2]; exact hR.2.2) hd (kk H locs ls hP hD hS hl)
theorem va_RA_find {U : State} {cA : ClassId} {ty : FieldType} (h : va_RA U cA ty) : U.vm.findClass ("[" ++ ty.toString) = some cA := by
  cases ty with
  | object C => obtain ⟨kA, comp, h1, h2, h3, h4⟩ := h; exact h4
  | _ => exact h
theorem xw_newa (f : fx x R0 own cc Ts) {atype : ArrayType} {ty : FieldType} {v : Int32} {N : Nat} {a0 : vp_A} {cA : ClassId} (hd : decode cc pc = .ok (.newarray atype, 2)) (harr : Cond.arrayClass ty ∈ Ts) (hty : newarray.typeOf atype = ty) (t0 : Nat) (ht : (TY (xg x))[t0]? = some (cA, ty)) (ha : ∀ cA : ClassId, vp_cell cA a0 = arrV cA N (fun _ => defaultValue ty)) (hn : ¬ v < 0) (hN : v.toNatClampNeg = N) (hb : N * componentBytes ty ≤ 536870912) (hk : k + 1 ≤ R0.cells) (hs : n + N ≤ R0.slots)
    (kk : ∀ q : Nat, ww x (X ++ [(q, .inl (cA, a0))]) L (k + 1) (n + N) (pc + 2) (.ref q :: st)) : ww x X L k n pc (.int v :: st) := fun H locs ls hP hD hS hl => by
  have hK := f.2.2.2.2.2.1
  refine va_newa f.1 f.2.1 (atype := atype) (by rw [hty]; exact f.2.2.2.2.1 _ harr) hty hK hP hD hS f.2.2.2.2.2.2.1 ha hn hN hb (by rw [f.2.2.2.2.2.2.2.2]; exact hk) (by rw [f.2.2.2.2.2.2.2.2]; exact hs) hd (fun q cB H1 hK1 hP1 hD1 hS1 => ?_)
  have e1 := va_RA_find (hK.2 t0 _ ht).2
  have e2 := va_RA_find (hK1.2 4 (cB, ty) rfl).2
  have e : cB = cA := Option.some.inj (e2.symm.trans e1)
  subst e
  exact kk q H1 locs ls hP1 hD1 hS1 hl
/-! what is thrown -/
theorem xw_out {mc ms : Nat} {E : String} (r : rx x mc ms post postX) (h1 : k ≤ mc) (h2 : n ≤ ms) (hp : postX E X) : wx x X L k n pc E st := fun H locs ls q ce hP hD hS hl hq hv hc => by
  rw [r.1]
  exact vx_out (fun z hz => (r.2.1 z hz).elim) r.2.2 hq hv hc (fun t ht hW => ⟨X, hp, by rw [ht]; exact hP, hD, hS.F ht⟩) hS.2.2 h1 h2
theorem xe_X {Y : va_W} {E : String} (h : sb X Y) (kk : wx x Y L k n pc E st) : wx x X L k n pc E st := fun H locs ls q ce hP hD hS hl => kk H locs ls q ce (h.P hP) (h.D hD) hS hl
/-- throw new E("text"), the text of AnagramButcher's pool at is -/
theorem xw_throw (f : fx x R0 "AnagramButcher" cc Ts) (hst : (xl x).stackTraces = false) {mc ms : Nat} (r : rx x mc ms post postX) {E : String} {ik is ic : Nat} {text : String} (hk : Cond.classLink "AnagramButcher" ik E ∈ Ts) (hi : Cond.initialized E ∈ Ts) (hs : (is, text) ∈ nS) (hE : (E, E) ∈ nC) (hat : ∀ w ∈ (vx_atS "AnagramButcher" ic E ["java/lang/RuntimeException", "java/lang/Exception"]).filter goodWord, w ∈ Ts)
    (h1 : Bundle.fit E = true) (h2 : ∀ w ∈ Cond.classLink "AnagramButcher" ik E :: Cond.initialized E :: vx_atS "AnagramButcher" ic E ["java/lang/RuntimeException", "java/lang/Exception"], vx_ot w = true) (h3 : ∀ w ∈ (vx_atS "AnagramButcher" ic E ["java/lang/RuntimeException", "java/lang/Exception"]).filter (fun w => !goodWord w), w ∈ Cond.castable E E :: nD.map Cond.declares)
    (d0 : decode cc pc = .ok (.new ik, 3)) (d3 : decode cc (pc + 3) = .ok (.dup, 1)) (d4 : decode cc (pc + 4) = .ok (.ldc is, 2)) (d6 : decode cc (pc + 6) = .ok (.invokespecial ic, 3)) (d9 : decode cc (pc + 9) = .ok (.athrow, 1))
    (hR : (6 ≤ R0.frames ∧ 98 ≤ R0.locals) ∧ k + 1 ≤ R0.cells ∧ n + 6 ≤ R0.slots) (hm : k + 1 ≤ mc ∧ n + 6 ≤ ms) (hrest : (rest.map fun v => v.category).sum ≤ 8) (hp : postX E X) : ww x X L k n pc rest := fun H locs ls hP hD hS hl => by
  obtain ⟨sa, hsa⟩ := f.2.2.2.2.2.2.2.1.1.2.2.2.2.1 _ hs
  have ha := f.2.2.2.2.2.2.2.1
  have hts := f.2.2.2.2.1
  have hR' := f.2.2.2.2.2.2.2.2
  have hat' : ∀ w ∈ vx_atS "AnagramButcher" ic E ["java/lang/RuntimeException", "java/lang/Exception"], w.before (xa x) (xs x) = true := vx_hat (fun w hw => hts w (hat w hw)) h3 (vx_c (va_Nw.use rfl (ha.1.1 _ hE)) (fun w hw => by
    obtain ⟨y, hy, rfl⟩ := List.mem_map.mp hw
    exact va_Nw.use rfl (ha.1.2.1 y hy)))
  rw [r.1]
  exact vx_throwS f.1 f.2.1 hst f.2.2.2.1 h1 (by decide +kernel) (hts _ hk) (hts _ hi) hsa hat' h2 ha.2.1 ha.2.2.1 hS (by rw [f.2.2.1]; exact hl.1) d0 d3 d4 d6 d9 (fun z hz => (r.2.1 z hz).elim) (by rw [hR']; exact hR.1.1) (by rw [hR']; have h9 := hR.1.2; show _ + (13 * 3 + 43) ≤ _; omega) (by rw [hR']; exact hR.2.1) (by rw [hR']; exact hR.2.2) r.2.2
    (fun t hvm hz hq => ⟨X, hp, hP.kept (fun k q hk => hq q.1 ((hP k q hk).lt)), hD, ⟨Nat.le_trans hS.1 hz, fun q g1 g2 => (hq q (Nat.lt_of_lt_of_le g1 hS.1)).trans (hS.2.1 q g1 g2)⟩⟩) hS.2.2 hm.1 hm.2
theorem xw_throwW (f : fx x R0 "AnagramButcher" cc Ts) (hst : (xl x).stackTraces = false) {mc ms : Nat} (r : rx x mc ms post postX) {E : String} {ik is ic : Nat} {text : String} (hk : Cond.classLink "AnagramButcher" ik E ∈ Ts) (hi : Cond.initialized E ∈ Ts) (hs : (is, text) ∈ nS) (hE : (E, E) ∈ nC) (hat : ∀ w ∈ (vx_atS "AnagramButcher" ic E ["java/lang/RuntimeException", "java/lang/Exception"]).filter goodWord, w ∈ Ts)
    (h1 : Bundle.fit E = true) (h2 : ∀ w ∈ Cond.classLink "AnagramButcher" ik E :: Cond.initialized E :: vx_atS "AnagramButcher" ic E ["java/lang/RuntimeException", "java/lang/Exception"], vx_ot w = true) (h3 : ∀ w ∈ (vx_atS "AnagramButcher" ic E ["java/lang/RuntimeException", "java/lang/Exception"]).filter (fun w => !goodWord w), w ∈ Cond.castable E E :: nD.map Cond.declares)
    (d0 : decode cc pc = .ok (.new ik, 3)) (d3 : decode cc (pc + 3) = .ok (.dup, 1)) (d4 : decode cc (pc + 4) = .ok (.ldc_w is, 3)) (d7 : decode cc (pc + 7) = .ok (.invokespecial ic, 3)) (d10 : decode cc (pc + 10) = .ok (.athrow, 1))
    (hR : (6 ≤ R0.frames ∧ 98 ≤ R0.locals) ∧ k + 1 ≤ R0.cells ∧ n + 6 ≤ R0.slots) (hm : k + 1 ≤ mc ∧ n + 6 ≤ ms) (hrest : (rest.map fun v => v.category).sum ≤ 8) (hp : postX E X) : ww x X L k n pc rest := fun H locs ls hP hD hS hl => by
  obtain ⟨sa, hsa⟩ := f.2.2.2.2.2.2.2.1.1.2.2.2.2.1 _ hs
  have ha := f.2.2.2.2.2.2.2.1
  have hts := f.2.2.2.2.1
  have hR' := f.2.2.2.2.2.2.2.2
  have hat' : ∀ w ∈ vx_atS "AnagramButcher" ic E ["java/lang/RuntimeException", "java/lang/Exception"], w.before (xa x) (xs x) = true := vx_hat (fun w hw => hts w (hat w hw)) h3 (vx_c (va_Nw.use rfl (ha.1.1 _ hE)) (fun w hw => by
    obtain ⟨y, hy, rfl⟩ := List.mem_map.mp hw
    exact va_Nw.use rfl (ha.1.2.1 y hy)))
  rw [r.1]
  exact vx_throwSW f.1 f.2.1 hst f.2.2.2.1 h1 (by decide +kernel) (hts _ hk) (hts _ hi) hsa hat' h2 ha.2.1 ha.2.2.1 hS (by rw [f.2.2.1]; exact hl.1) d0 d3 d4 d7 d10 (fun z hz => (r.2.1 z hz).elim) (by rw [hR']; exact hR.1.1) (by rw [hR']; have h9 := hR.1.2; show _ + (13 * 3 + 43) ≤ _; omega) (by rw [hR']; exact hR.2.1) (by rw [hR']; exact hR.2.2) r.2.2
    (fun t hvm hz hq => ⟨X, hp, hP.kept (fun k q hk => hq q.1 ((hP k q hk).lt)), hD, ⟨Nat.le_trans hS.1 hz, fun q g1 g2 => (hq q (Nat.lt_of_lt_of_le g1 hS.1)).trans (hS.2.1 q g1 g2)⟩⟩) hS.2.2 hm.1 hm.2
end R9
def FU : Nat := 20000
theorem lc_eq (u v : Int64) : lg_cmp u v = 0 ↔ u = v := by
  unfold lg_cmp
  by_cases h : u > v
  · rw [if_pos h]
    exact ⟨fun e => absurd e (by decide), fun e => absurd (Int64.lt_iff_toInt_lt.mp h) (by rw [e]; exact Int.lt_irrefl _)⟩
  · rw [if_neg h]
    by_cases e : u = v
    · rw [if_pos e]; exact ⟨fun _ => e, fun _ => rfl⟩
    · rw [if_neg e]; exact ⟨fun z => absurd z (by decide), fun z => absurd z e⟩
theorem lc_gt (u v : Int64) : 0 < lg_cmp u v ↔ v < u := by
  unfold lg_cmp
  by_cases h : u > v
  · rw [if_pos h]; exact ⟨fun _ => h, fun _ => by decide⟩
  · rw [if_neg h]
    by_cases e : u = v
    · rw [if_pos e]; exact ⟨fun z => absurd z (by decide), fun z => absurd z h⟩
    · rw [if_neg e]; exact ⟨fun z => absurd z (by decide), fun z => absurd z h⟩
theorem lc_lt (u v : Int64) : lg_cmp u v < 0 ↔ u < v := by
  unfold lg_cmp
  by_cases h : u > v
  · rw [if_pos h]
    refine ⟨fun e => absurd e (by decide), fun e => ?_⟩
    have h1 := Int64.lt_iff_toInt_lt.mp h
    have h2 := Int64.lt_iff_toInt_lt.mp e
    omega
  · rw [if_neg h]
    by_cases e : u = v
    · rw [if_pos e]; exact ⟨fun z => absurd z (by decide), fun z => absurd (Int64.lt_iff_toInt_lt.mp z) (by rw [e]; exact Int.lt_irrefl _)⟩
    · rw [if_neg e]
      refine ⟨fun _ => ?_, fun _ => by decide⟩
      have h1 : ¬ v.toInt < u.toInt := fun z => h (Int64.lt_iff_toInt_lt.mpr z)
      have h2 : u.toInt ≠ v.toInt := fun z => e (Int64.toInt_inj.mp z)
      exact Int64.lt_iff_toInt_lt.mpr (by omega)
theorem lc_ge (u v : Int64) : 0 ≤ lg_cmp u v ↔ v ≤ u := by
  have h := lc_lt u v
  have a : 0 ≤ lg_cmp u v ↔ ¬ lg_cmp u v < 0 := by rw [Int32.not_lt]
  rw [a, h, Int64.not_lt]
theorem lc_le (u v : Int64) : lg_cmp u v ≤ 0 ↔ u ≤ v := by
  have h := lc_gt u v
  have a : lg_cmp u v ≤ 0 ↔ ¬ 0 < lg_cmp u v := by rw [Int32.not_lt]
  rw [a, h, Int64.not_lt]
/-! the list of receipts, with the receipts behind it: address of its row, its room, modCount, the receipts (address, word, price, returned) -/
abbrev ZL : Type := Nat × Nat × Int32 × List (Nat × Int64 × Int32 × Int32)
def lrs (z : ZL) : List (Nat × Int64 × Int32 × Int32) := z.2.2.2
def lln (z : ZL) : Nat := (lrs z).length
def lsz (z : ZL) : Int32 := nI (lln z)
def lrc (z : ZL) (i : Nat) : Nat × Int64 × Int32 × Int32 := ((lrs z)[i]?).getD (0, 0, 0, 0)
def lga (z : ZL) (i : Nat) : Nat := (lrc z i).1
def lwd (z : ZL) (i : Nat) : Int64 := (lrc z i).2.1
def lpr (z : ZL) (i : Nat) : Int32 := (lrc z i).2.2.1
def lrt (z : ZL) (i : Nat) : Int32 := (lrc z i).2.2.2
def lset (z : ZL) (i : Nat) (r : Int32) : ZL := (z.1, z.2.1, z.2.2.1, (lrs z).set i (lga z i, lwd z i, lpr z i, r))
def lrf (z : ZL) : Nat → Option Nat := fun j => ((lrs z)[j]?).map (fun r => r.1)
def lcell (r : Nat × Int64 × Int32 × Int32) : Nat × va_E := (r.1, .inr (5, [.long r.2.1, .int r.2.2.1, .int r.2.2.2]))
def lrow (g : Gx) (z : ZL) : va_W := if z.2.1 = 0 then [] else [(z.1, .inl (gO g, z.2.1, .inr (.inr (.inr (.inr (lrf z))))))]
def ZP (g : Gx) (a : Nat) (z : ZL) : va_W := ((a, .inr (0, [.int z.2.2.1, .ref (if z.2.1 = 0 then gM g 1 else z.1), .int (lsz z)])) :: lrow g z) ++ (lrs z).map lcell
def lgrow (n : Nat) : Nat := if n = 0 then 10 else n + n / 2
def ladd (z : ZL) (q : Nat) (w : Int64) (p : Int32) (z' : ZL) : Prop := lrs z' = lrs z ++ [(q, w, p, 0)] ∧ z'.2.2.1 = z.2.2.1 + 1 ∧ (lln z < z.2.1 → z'.1 = z.1 ∧ z'.2.1 = z.2.1) ∧ (¬ lln z < z.2.1 → z'.2.1 = lgrow z.2.1)
def lroom (z : ZL) (c s : Nat) : Prop := lln z < z.2.1 ∨ (1 ≤ c ∧ lgrow z.2.1 ≤ s)
def lok (z : ZL) : Prop := lln z ≤ z.2.1 ∧ z.2.1 ≤ 40000 ∧ (z.2.1 = 0 ∨ 10 ≤ z.2.1)
def lix (g : Gx) (F : va_W) (z : ZL) (i : Nat) : Nat := F.length + (1 + (lrow g z).length + i)
theorem ZP_at {g : Gx} {a i : Nat} {z : ZL} (F : va_W) (hi : i < lln z) : (F ++ ZP g a z)[lix g F z i]? = some (lga z i, .inr (5, [.long (lwd z i), .int (lpr z i), .int (lrt z i)])) := by
  unfold lix ZP
  rw [List.getElem?_append_right (by omega), Nat.add_sub_cancel_left, List.getElem?_append_right (by simp only [List.length_cons]; omega)]
  rw [show 1 + (lrow g z).length + i - ((a, Sum.inr (0, [Value.int z.2.2.1, Value.ref (if z.2.1 = 0 then gM g 1 else z.1), Value.int (lsz z)])) :: lrow g z : va_W).length = i by simp only [List.length_cons]; omega]
  rw [List.getElem?_map]
  have e : (lrs z)[i]? = some (lrc z i) := by
    unfold lrc
    rw [List.getElem?_eq_getElem hi]
    rfl
  rw [e]
  rfl
theorem lset_lrf (z : ZL) (i : Nat) (r : Int32) (hi : i < lln z) : lrf (lset z i r) = lrf z := by
  funext j
  unfold lrf lset
  show (((lrs z).set i _)[j]?).map _ = _
  rw [List.getElem?_set]
  by_cases h : i = j
  · subst h
    have hi' : i < (lrs z).length := hi
    rw [if_pos rfl, if_pos hi', List.getElem?_eq_getElem hi']
    unfold lga lrc
    rw [List.getElem?_eq_getElem hi']
    rfl
  · rw [if_neg h]
theorem lset_lln (z : ZL) (i : Nat) (r : Int32) : lln (lset z i r) = lln z := by
  show ((lrs z).set i _).length = _
  rw [List.length_set]; rfl
theorem ZP_set {g : Gx} {a i : Nat} {z : ZL} (F : va_W) (r : Int32) (hi : i < lln z) : (F ++ ZP g a z).set (lix g F z i) (lga z i, .inr (5, [.long (lwd z i), .int (lpr z i), .int r])) = F ++ ZP g a (lset z i r) := by
  unfold lix ZP
  have e1 : lrow g (lset z i r) = lrow g z := by
    unfold lrow
    rw [lset_lrf z i r hi]; rfl
  rw [e1]
  rw [List.set_append_right _ _ (by omega), Nat.add_sub_cancel_left, List.set_append_right _ _ (by simp only [List.length_cons]; omega)]
  rw [show 1 + (lrow g z).length + i - ((a, Sum.inr (0, [Value.int z.2.2.1, Value.ref (if z.2.1 = 0 then gM g 1 else z.1), Value.int (lsz z)])) :: lrow g z : va_W).length = i by simp only [List.length_cons]; omega]
  have e2 : lsz (lset z i r) = lsz z := by unfold lsz; rw [lset_lln]
  rw [e2]
  show F ++ (_ ++ ((lrs z).map lcell).set i _) = F ++ (_ ++ ((lrs z).set i _).map lcell)
  rw [List.map_set]
  rfl
theorem sb_zc {F Fc Fr Z : va_W} (h : sb F (Fc ++ Fr)) : sb (F ++ Z) ((Fc ++ Z) ++ Fr) := sb_tr (sb_tail Z h) (sb_swap Fc Fr Z)
theorem sb_cz {F Fc Fr Z : va_W} (h : sb (Fc ++ Fr) F) : sb ((Fc ++ Z) ++ Fr) (F ++ Z) := sb_tr (sb_swap Fc Z Fr) (sb_tail Z h)
theorem sb_zr {F Fc Fr Z : va_W} (h : sb F (Fc ++ Fr)) : sb (F ++ Z) (Fc ++ (Fr ++ Z)) := by rw [← List.append_assoc]; exact sb_tail Z h
theorem sb_rz {F Fc Fr Z : va_W} (h : sb (Fc ++ Fr) F) : sb (Fc ++ (Fr ++ Z)) (F ++ Z) := by rw [← List.append_assoc]; exact sb_tail Z h
theorem sb_z0 {F Z : va_W} : sb (F ++ Z) (Z ++ F) := by
  have h := sb_swap [] F Z
  simpa using h
theorem lset_lt {z : ZL} {i j : Nat} {r : Int32} (h : j < lln z) : j < lln (lset z i r) := by rw [lset_lln]; exact h
theorem lset_lga (z : ZL) (i : Nat) (r : Int32) (j : Nat) : lga (lset z i r) j = lga z j := by
  unfold lga lrc lset
  show ((((lrs z).set i _)[j]?).getD _).1 = _
  rw [List.getElem?_set]
  by_cases h : i = j
  · subst h
    rw [if_pos rfl]
    by_cases h2 : i < (lrs z).length
    · rw [if_pos h2]; rfl
    · rw [if_neg h2, List.getElem?_eq_none (Nat.not_lt.mp h2)]
  · rw [if_neg h]
theorem vp_lt {i : Int32} {n : Nat} (h : vp_in i n) : i.toNatClampNeg < n := Nat.not_le.mp fun q => h (Or.inr q)
theorem ZP_at2 {g : Gx} {a i : Nat} {z : ZL} {F Y : va_W} (hi : i < lln z) : ((F ++ ZP g a z) ++ Y)[lix g F z i]? = some (lga z i, .inr (5, [.long (lwd z i), .int (lpr z i), .int (lrt z i)])) := by
  have h := ZP_at (g := g) (a := a) F hi
  rw [List.getElem?_append_left (List.getElem?_eq_some_iff.mp h).1]
  exact h
section R10
variable {x : Cx} {R0 : Room} {own : String} {cc : ByteArray} {Ts : List Cond} {X Xc Xr : va_W} {L : List (Nat × Value)} {k n pc i : Nat} {st rest : List Value}
variable {y : MethodName} {bytes : ByteArray} {maxL nA : Nat} {ret : Option FieldType} {ws ws' : List Cond} {rm : Room} {As : List Value} {post : Option Value → va_W → Prop} {postX : String → va_W → Prop}
theorem xw_cast (f : fx x R0 own cc Ts) {C : String} {T : u_T} {N ci a j : Nat} {fs : List Value} (hd : decode cc pc = .ok (.checkcast i, 3)) (hw : Cond.classLink own i C ∈ Ts) (hc : vwCl[ci]? = some (C, T, N)) (he : X[j]? = some (a, .inr (ci, fs))) (kk : ww x X L k n (pc + 3) (.ref a :: st)) : ww x X L k n pc (.ref a :: st) :=
  fun H locs ls hP hD hS hl => va_castE f.1 f.2.1 f.2.2.2.1 (f.2.2.2.2.1 _ hw) (va_recv f.2.2.2.2.2.1 hP hc he) hd (kk H locs ls hP hD hS hl)
theorem xw_callF (f : fx x R0 own cc Ts) {x0 : MethodName} {count a : Nat} {fs : List Value} (C : cm (xl x) (xg x) y ws rm (.ref a :: As) Xc post) (hT : GoodIn Ts (va_wsF own i RJx4a65c x0 y ws)) (hw : ws = Cond.code y bytes maxL ret :: ws') (hF : (RJx4a65c, x0, y) ∈ nF) (hn : As.length = nA) (hd3 : hA x0 nA) (hR : hRm rm R0 maxL k n) (hst : (rest.map fun v => v.category).sum ≤ 8) (h0 : (Xc ++ Xr)[0]? = some (a, .inr (0, fs))) (hsb : sb X (Xc ++ Xr)) (hs : st = As.reverse ++ .ref a :: rest) (hd : decode cc pc = .ok (.invokeinterface i count, 5))
    (kk : ∀ (v : Option Value) (X1 : va_W), post v X1 → ww x (X1 ++ Xr) L (k + rm.cells) (n + rm.slots) (pc + 5) (v.toList ++ rest)) : ww x X L k n pc st := by
  subst hs
  have hR' := f.2.2.2.2.2.2.2.2
  have hK := f.2.2.2.2.2.1
  refine xw_run5 f hsb (fun H locs ls hP hD hS hl => va_runF (C := RJx4a65c) (As := As) (rest := rest) (Ts := Ts) (own := own) (nL := xn x) (hK.1 0 _ rfl).2 ⟨f.1, f.2.1, f.2.2.1, f.2.2.2.1, f.2.2.2.2.1⟩ (C H.size) (va_cwF nA f.2.2.2.2.1 hT hw rfl rfl (f.2.2.2.2.2.2.2.1.1.2.2.2.1 _ hF) hd3 (by rw [hR']; exact hR.1)) ⟨pq_blind _ _ _ _, va_recv hK hP (ci := 0) rfl h0, pq_of f hP hD hS (.ref a :: As)⟩ rfl hn hl.1 rfl (lv_room hst) hd (by rw [hR']; exact hR.2)) kk
theorem xw_callVj (f : fx x R0 own cc Ts) {C0 : String} {T : u_T} {N ci a : Nat} {fs : List Value} (C : cm (xl x) (xg x) y ws rm (.ref a :: As) Xc post) (hT : GoodIn Ts (wsV own i C0 y ws)) (hw : ws = Cond.code y bytes maxL ret :: ws') (hcl : y.cls = C0) (hn : As.length = nA) (hd3 : hA y nA) (hR : hRm rm R0 maxL k n) (hst : (rest.map fun v => v.category).sum ≤ 8) (hc : vwCl[ci]? = some (C0, T, N)) {j : Nat} (h0 : (Xc ++ Xr)[j]? = some (a, .inr (ci, fs))) (hsb : sb X (Xc ++ Xr)) (hs : st = As.reverse ++ .ref a :: rest) (hd : decode cc pc = .ok (.invokevirtual i, 3))
    (kk : ∀ (v : Option Value) (X1 : va_W), post v X1 → ww x (X1 ++ Xr) L (k + rm.cells) (n + rm.slots) (pc + 3) (v.toList ++ rest)) : ww x X L k n pc st := by
  subst hs
  have hR' := f.2.2.2.2.2.2.2.2
  refine xw_runM f hsb (fun H locs ls hP hD hS hl => va_runV (C := C0) (As := As) (rest := rest) (Ts := Ts) (own := own) (nL := xn x) ⟨f.1, f.2.1, f.2.2.1, f.2.2.2.1, f.2.2.2.2.1⟩ (C H.size) (cwV nA f.2.2.2.2.1 hT hw rfl rfl ⟨hcl, hd3⟩ (by rw [hR']; exact hR.1)) ⟨pq_blind _ _ _ _, va_recv f.2.2.2.2.2.1 hP hc h0, pq_of f hP hD hS (.ref a :: As)⟩ rfl hn hl.1 rfl (lv_room hst) hd (by rw [hR']; exact hR.2)) kk
end R10
