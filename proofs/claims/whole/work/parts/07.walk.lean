/-! THE WALK LAYER: one context, one judgement (ww), one row an instruction; contracts cm (returns) and ce (returns or throws). -/
abbrev Gx : Type := (Nat → ClassId) × (Nat → Nat → Nat) × ClassId × ClassId × ClassId × ClassId × (Nat → Nat) × (Nat → Nat) × (Nat → Nat)
abbrev gD (g : Gx) : va_G := (g.1, g.2.1)
abbrev gI (g : Gx) : ClassId := g.2.2.1
abbrev gJ (g : Gx) : ClassId := g.2.2.2.1
abbrev gZ (g : Gx) : ClassId := g.2.2.2.2.1
abbrev gO (g : Gx) : ClassId := g.2.2.2.2.2.1
abbrev TY (g : Gx) : List (ClassId × FieldType) := [(gI g, .int), (gJ g, .long), (gZ g, .boolean), (gO g, .object "java/lang/Object")]
abbrev gK (g : Gx) : Nat → Nat := g.2.2.2.2.2.2.1
abbrev gV (g : Gx) : Nat → Nat := g.2.2.2.2.2.2.2.1
abbrev gM (g : Gx) : Nat → Nat := g.2.2.2.2.2.2.2.2
def sIAE : String := "java/lang/IllegalArgumentException"
def sISE : String := "java/lang/IllegalStateException"
def sNSE : String := "java/util/NoSuchElementException"
def sIOB : String := "java/lang/IndexOutOfBoundsException"
def nC : List (String × String) := [(sIAE, sIAE), (sISE, sISE), (sNSE, sNSE), (sIOB, sIOB), ("AnagramButcher$Receipt", "java/lang/Object")]
def nD : List MethodName := [Bundle.initS "java/lang/RuntimeException", Bundle.initS "java/lang/Exception", Bundle.initS "java/lang/Throwable"]
def nM : List (String × Nat × MethodName) := [("AnagramButcher", 9, yX1_init), ("AnagramButcher", 25, yX0_init), ("AnagramButcher", 32, yX3_init), ("AnagramButcher", 39, yX2_init), ("AnagramButcher$Accounts", 20, yX2_init), ("AnagramButcher$Dictionary", 9, yX6_init), ("AnagramButcher$Dictionary", 21, yX2_init), ("AnagramButcher$Planner", 9, yX2_init), ("AnagramButcher$Planner", 18, yX6_init), ("AnagramButcher$Stock", 9, yX2_init)]
def nF : List (String × MethodName × MethodName) := [(RJx4a65c, ⟨"java/util/List", "size", "()I"⟩, yJx4a65c_size_8abf5), (RJx4a65c, ⟨"java/util/List", "add", "(Ljava/lang/Object;)Z"⟩, yJx4a65c_add_9ea2d), (RJx4a65c, ⟨"java/util/List", "get", "(I)Ljava/lang/Object;"⟩, yJx4a65c_get_915e3)]
def nS : List (Nat × String) := [(158, "the stock has too few pieces of a letter"), (173, "the sale is refused"), (234, "the word was returned already"), (259, "there would be too many pieces of a letter"), (261, "no receipts are left"), (265, "there is no such receipt"), (277, "not a word"), (281, "out of range"), (283, "no word has this index"), (54, "the word is in the dictionary"), (69, "the dictionary is full"), (80, "the word is not in the dictionary")]
def nN : List (String × String) := [(sISE, sIAE), (sNSE, sIAE), (sIOB, sIAE), (sISE, sIOB)]
/-- what only the tables say -/
def av (g : Gx) (U : State) : Prop := (∀ q ∈ nC, va_Nw (.castable q.1 q.2) U) ∧ (∀ q ∈ nD, va_Nw (.declares q) U) ∧ (∀ q ∈ nM, va_Nw (.methodLinkNest q.1 q.2.1 q.2.2 "AnagramButcher") U) ∧ (∀ q ∈ nF, va_Fw q.1 q.2.1 q.2.2 U) ∧
  (∀ q ∈ nS, ∃ a : Nat, vk_R "AnagramButcher" q.1 q.2 a U) ∧ (∀ q ∈ nN, va_Nc q.1 q.2 U) ∧ va_Dc U ∧ va_Mi "[Ljava/lang/Object;" (gM g 0) U ∧
  vk_R "AnagramButcher$Stock" 70 "aeiou" (gK g 0) U ∧ vk_R "AnagramButcher$Stock" 76 "jqxz" (gK g 1) U ∧ vk_R "AnagramButcher$Stock" 78 "mw" (gK g 2) U ∧ va_AO "java/lang/Object" U
def nKlen : List Nat := [5, 4, 2]
def nKbyt : List (List Int32) := [[97, 101, 105, 111, 117], [106, 113, 120, 122], [109, 119]]
/-- what nobody writes -/
def ah (g : Gx) (A : Nat → Prop) (U : State) (H : Heap) : Prop := vx_Zq Bundle.tN "UNASSIGNED_STACK" Bundle.steD A U H ∧ vx_Zq Bundle.tN "SUPPRESSED_SENTINEL" Bundle.listD A U H ∧ va_Z "java/lang/String" "COMPACT_STRINGS" "Z" (.int 1) A U H ∧
  va_Z "java/util/ArrayList" "DEFAULTCAPACITY_EMPTY_ELEMENTDATA" "[Ljava/lang/Object;" (.ref (gM g 1)) A U H ∧ va_T (.object "java/lang/Object") (gM g 1) 0 (fun _ => .null) A U H ∧ vk_S 3 nKlen nKbyt (gK g) (gV g) A U H
/-- what a method may take as given besides its world -/
def am (g : Gx) (A : Nat → Prop) (U : State) (H : Heap) : Prop := av g U ∧ ah g A U H
theorem nF_ok : ∀ q ∈ nF, q.2.1.cls ≠ "java/lang/invoke/MethodHandle" ∧ q.2.1.cls ≠ "java/lang/invoke/VarHandle" := by decide +kernel
theorem av.moved {g : Gx} {u U : State} (hW : u.WarmedH U.vm) (h : av g u) : av g U := by
  obtain ⟨h1, h2, h3, h4, h5, h6, h7, h8, h9, h10, h11, h12⟩ := h
  exact ⟨fun q hq => (h1 q hq).warmC hW, fun q hq => (h2 q hq).warmD hW, fun q hq => (h3 q hq).warmM hW, fun q hq => (h4 q hq).moved (nF_ok q hq) hW.alike, fun q hq => (h5 q hq).imp fun a h => h.warm hW, fun q hq => (h6 q hq).moved hW.alike, h7.moved hW.alike, h8.moved hW.alike, h9.warm hW, h10.warm hW, h11.warm hW, h12.moved hW.alike⟩
theorem ah.moved {g : Gx} {A : Nat → Prop} {u U : State} {H : Heap} (hW : u.WarmedH U.vm) (h : ah g A u H) : ah g A U H :=
  ⟨h.1.moved hW.alike, h.2.1.moved hW.alike, h.2.2.1.moved hW.alike, h.2.2.2.1.moved hW.alike, h.2.2.2.2.1.moved hW.alike, h.2.2.2.2.2.moved hW.alike⟩
theorem ah.kept {g : Gx} {A : Nat → Prop} {U : State} {H H1 : Heap} (h : ah g A U H) (hq : ∀ a : Nat, a < H.size → ¬ A a → H1[a]? = H[a]?) : ah g A U H1 :=
  ⟨h.1.kept hq, h.2.1.kept hq, h.2.2.1.kept hq, h.2.2.2.1.kept hq, h.2.2.2.2.1.kept hq, h.2.2.2.2.2.kept hq⟩
theorem ah.narrow {g : Gx} {A B : Nat → Prop} {U : State} {H : Heap} (h : ah g A U H) (hAB : ∀ q, B q → A q) : ah g B U H :=
  ⟨h.1.narrow hAB, h.2.1.narrow hAB, h.2.2.1.narrow hAB, h.2.2.2.1.narrow hAB, h.2.2.2.2.1.narrow hAB, h.2.2.2.2.2.narrow hAB⟩
theorem am.moved {g : Gx} {A : Nat → Prop} {u U : State} {H : Heap} (hW : u.WarmedH U.vm) (h : am g A u H) : am g A U H := ⟨av.moved hW h.1, ah.moved hW h.2⟩
theorem am.same {g : Gx} {A : Nat → Prop} {u U : State} {H : Heap} (hW : U.vm = u.vm) (h : am g A u H) : am g A U H := am.moved (by rw [hW]; exact State.WarmedH.refl u) h
theorem am.kept {g : Gx} {A : Nat → Prop} {U : State} {H H1 : Heap} (h : am g A U H) (hq : ∀ a : Nat, a < H.size → ¬ A a → H1[a]? = H[a]?) : am g A U H1 := ⟨h.1, h.2.kept hq⟩
theorem am.narrow {g : Gx} {A B : Nat → Prop} {U : State} {H : Heap} (h : am g A U H) (hAB : ∀ q, B q → A q) : am g B U H := ⟨h.1, h.2.narrow hAB⟩
/-- the context of a body -/
abbrev Cx : Type := Program × Launch × Env × Room × State × MethodId × Array Value × List Frame × Method × Code × Gx × (Nat → Prop) × Nat × (State → Prop)
abbrev xp (x : Cx) : Program := x.1
abbrev xl (x : Cx) : Launch := x.2.1
abbrev xe (x : Cx) : Env := x.2.2.1
abbrev xR (x : Cx) : Room := x.2.2.2.1
abbrev xs (x : Cx) : State := x.2.2.2.2.1
abbrev xm (x : Cx) : MethodId := x.2.2.2.2.2.1
abbrev xa (x : Cx) : Array Value := x.2.2.2.2.2.2.1
abbrev xb (x : Cx) : List Frame := x.2.2.2.2.2.2.2.1
abbrev xh (x : Cx) : Method := x.2.2.2.2.2.2.2.2.1
abbrev xc (x : Cx) : Code := x.2.2.2.2.2.2.2.2.2.1
abbrev xg (x : Cx) : Gx := x.2.2.2.2.2.2.2.2.2.2.1
abbrev xA (x : Cx) : Nat → Prop := x.2.2.2.2.2.2.2.2.2.2.2.1
abbrev xn (x : Cx) : Nat := x.2.2.2.2.2.2.2.2.2.2.2.2.1
abbrev xQ (x : Cx) : State → Prop := x.2.2.2.2.2.2.2.2.2.2.2.2.2
/-- the walk: world X, locals L, k cells and n slots made so far, at pc with the stack st -/
def ww (x : Cx) (X : va_W) (L : List (Nat × Value)) (k n pc : Nat) (st : List Value) : Prop :=
  ∀ (H : Heap) (locs : List Loc) (ls : Array Slot), va_P (gD (xg x)) vwCl X H → va_D (xA x) X → va_S (xA x) (xs x).heap H locs → lv_has ls (xn x) L →
    W (xp x) (xl x) (xe x) (xR x) (xs x) (xm x) (xa x) (xb x) (xh x) (xc x) H locs k n (xQ x) (F0 (xm x) pc ls st)
/-- .. with something of class E thrown at pc -/
def wx (x : Cx) (X : va_W) (L : List (Nat × Value)) (k n pc : Nat) (E : String) (st : List Value) : Prop :=
  ∀ (H : Heap) (locs : List Loc) (ls : Array Slot) (q : Addr) (ce : Cell), va_P (gD (xg x)) vwCl X H → va_D (xA x) X → va_S (xA x) (xs x).heap H locs → lv_has ls (xn x) L → H[q]? = some ce → ce.vm = .none → (xs x).vm.findClass E = some ce.cls →
    vx_W (xp x) (xl x) (xe x) (xR x) (xs x) (xm x) (xa x) (xb x) (xh x) (xc x) H locs k n (xQ x) (F0 (xm x) pc ls st) q
/-- the facts of a body: the machine, its code, its class, its words -/
def fx (x : Cx) (R0 : Room) (own : String) (cc : ByteArray) (Ts : List Cond) : Prop :=
  (xp x).tables.exec = Jvm.exec ∧ (xc x).code = cc ∧ (xc x).maxLocals = xn x ∧ (xs x).vm.findClass own = some (xm x).cls ∧ (∀ w ∈ Ts, w.before (xa x) (xs x) = true) ∧
  va_K (gD (xg x)) vwCl (TY (xg x)) (xs x) ∧ (∀ q, (xs x).heap.size ≤ q → xA x q) ∧ am (xg x) (xA x) (xs x) (xs x).heap ∧ xR x = R0
def qq (g : Gx) (A : Nat → Prop) (post : Option Value → va_W → Prop) : Array Value → State → Outcome → State → Prop := fun _ st oc t =>
  (∃ (v : Option Value) (X1 : va_W), oc = .returned v ∧ post v X1 ∧ va_P (gD g) vwCl X1 t.heap ∧ va_D A X1) ∧ va_F A st t
def qx (g : Gx) (A : Nat → Prop) (postX : String → va_W → Prop) : String → State → State → Prop := fun E st t =>
  ∃ X1 : va_W, postX E X1 ∧ va_P (gD g) vwCl X1 t.heap ∧ va_D A X1 ∧ va_F A st t
def pq (g : Gx) (sz : Nat) (as : List Value) (X : va_W) : Array Value → State → Prop := va_Pc as (fun U => U.heap.size = sz ∧ va_P (gD g) vwCl X U.heap ∧ va_K (gD g) vwCl (TY g) U ∧ va_D (fun _ => True) X ∧ am g (va_A X sz) U U.heap)
/-- the contract of a method that returns -/
def cm (l : Launch) (g : Gx) (y : MethodName) (ws : List Cond) (rm : Room) (as : List Value) (X : va_W) (post : Option Value → va_W → Prop) : Prop :=
  ∀ sz : Nat, Met l y ws rm (pq g sz as X) (qq g (va_A X sz) post) rm.cells rm.slots (va_A X sz)
/-- .. that returns or throws -/
def ce (l : Launch) (g : Gx) (y : MethodName) (ws : List Cond) (rm : Room) (as : List Value) (X : va_W) (post : Option Value → va_W → Prop) (postX : String → va_W → Prop) : Prop :=
  ∀ sz : Nat, vx_Met l y ws rm (pq g sz as X) (qq g (va_A X sz) post) (qx g (va_A X sz) postX) rm.cells rm.slots (va_A X sz)
/-- what the end of a body owes -/
def re (x : Cx) (ret : Option FieldType) (mc ms : Nat) (post : Option Value → va_W → Prop) : Prop :=
  (xh x).sig.returnType = ret ∧ (xh x).locks = false ∧ ∀ (H : Heap) (locs : List Loc) (g : JFrame),
    W (xp x) (xl x) (xe x) (xR x) (xs x) (xm x) (xa x) (xb x) (xh x) (xc x) H locs mc ms (MQ (xb x) (qq (xg x) (xA x) post) (xa x) (xs x) mc ms (xA x)) g → W (xp x) (xl x) (xe x) (xR x) (xs x) (xm x) (xa x) (xb x) (xh x) (xc x) H locs mc ms (xQ x) g
/-- .. of one that may throw -/
def rx (x : Cx) (mc ms : Nat) (post : Option Value → va_W → Prop) (postX : String → va_W → Prop) : Prop :=
  xQ x = vx_MQ (xb x) (qq (xg x) (xA x) post) (qx (xg x) (xA x) postX) (xa x) (xs x) mc ms (xA x) ∧ (∀ z ∈ (xc x).exceptionTable.toList, False) ∧ (xh x).locks = false
theorem pq_blind (g : Gx) (sz : Nat) (as : List Value) (X : va_W) : FrameBlind (pq g sz as X) := fun a U fr mk q => by
  obtain ⟨h0, h1, h2, h3, h4, h5⟩ := q
  exact ⟨h0, h1, h2, va_K.moved (u := U) (U := U.calling fr mk a) (Vm.Alike.refl U.vm) h3, h4, am.same (u := U) (U := U.calling fr mk a) rfl h5⟩
/-! bodies -/
theorem cm_of {l : Launch} {g : Gx} {y : MethodName} {ws ws' : List Cond} {rm : Room} {as : List Value} {X : va_W} {post : Option Value → va_W → Prop} {cc : ByteArray} {nL : Nat} {ret : Option FieldType}
    (hy : plainName y.cls = true) (hw : ws = Cond.code y cc nL ret :: ws') (hl : (lg_sl as).length ≤ nL)
    (body : ∀ x : Cx, fx x rm y.cls cc ws → xl x = l → xg x = g → xn x = nL → (xh x).name = y.name → re x ret rm.cells rm.slots post → ww x X (lv_args 0 as) 0 0 0 []) : cm l g y ws rm as X post := by
  intro sz
  refine Met.ofW (cc := cc) (maxL := nL) (ret := ret) hy hw ?_
  intro p e s m args below meth c s₁ B hml hv
  obtain ⟨rfl, hsz, hP, hK, hD0, ha⟩ := hv
  subst hsz
  have hts := atoms_spec (ws := ws) B.pre
  have K := body (p, l, e, rm, s, m, as.toArray, below, meth, c, g, va_A X s.heap.size, nL, MQ below (qq g (va_A X s.heap.size) post) as.toArray s rm.cells rm.slots (va_A X s.heap.size))
    ⟨B.exec, B.bytes, hml, findClass_of_methodNamed B.named, hts, hK, fun q h => Or.inr h, ha, rfl⟩ rfl rfl rfl (name_of_methodNamed B.named B.method).1 ⟨B.returns, B.notSynchronized, fun _ _ _ h => h⟩
  have hle := lv_entry as hl
  rw [lg_entry_eq]
  generalize (lg_sl as ++ List.replicate (nL - (lg_sl as).length) Slot.unset).toArray = ls at hle ⊢
  exact K s.heap [] ls hP (hD0.self (sz := s.heap.size)) va_S.rf hle
theorem ce_of {l : Launch} {g : Gx} {y : MethodName} {ws ws' : List Cond} {rm : Room} {as : List Value} {X : va_W} {post : Option Value → va_W → Prop} {postX : String → va_W → Prop} {cc : ByteArray} {nL : Nat} {ret : Option FieldType}
    (hy : plainName y.cls = true) (hw : ws = Cond.code y cc nL ret :: ws') (hl : (lg_sl as).length ≤ nL)
    (body : ∀ x : Cx, fx x rm y.cls cc ws → xl x = l → xg x = g → xn x = nL → (xh x).name = y.name → re x ret rm.cells rm.slots post → rx x rm.cells rm.slots post postX → ww x X (lv_args 0 as) 0 0 0 []) : ce l g y ws rm as X post postX := by
  intro sz
  refine vx_ofW (cc := cc) (maxL := nL) (ret := ret) hy hw ?_
  intro p e s m args below meth c s₁ B hml ht hv
  obtain ⟨rfl, hsz, hP, hK, hD0, ha⟩ := hv
  subst hsz
  have hts := atoms_spec (ws := ws) B.pre
  have K := body (p, l, e, rm, s, m, as.toArray, below, meth, c, g, va_A X s.heap.size, nL, vx_MQ below (qq g (va_A X s.heap.size) post) (qx g (va_A X s.heap.size) postX) as.toArray s rm.cells rm.slots (va_A X s.heap.size))
    ⟨B.exec, B.bytes, hml, findClass_of_methodNamed B.named, hts, hK, fun q h => Or.inr h, ha, rfl⟩ rfl rfl rfl (name_of_methodNamed B.named B.method).1 ⟨B.returns, B.notSynchronized, fun _ _ _ h => vx_ret h⟩ ⟨rfl, ht, B.notSynchronized⟩
  have hle := lv_entry as hl
  rw [lg_entry_eq]
  generalize (lg_sl as ++ List.replicate (nL - (lg_sl as).length) Slot.unset).toArray = ls at hle ⊢
  exact K s.heap [] ls hP (hD0.self (sz := s.heap.size)) va_S.rf hle
section R
variable {x : Cx} {R0 : Room} {own : String} {cc : ByteArray} {Ts : List Cond} {X : va_W} {L : List (Nat × Value)} {k n pc : Nat} {st : List Value}
/-! worlds and locals in another order, or fewer -/
theorem xw_L {L' : List (Nat × Value)} (ks : List Nat) (h : lv_pick L ks = L') (kk : ww x X L' k n pc st) : ww x X L k n pc st := fun H locs ls hP hD hS hl => kk H locs ls hP hD hS (lv_sub hl ks h)
def sb (X Y : va_W) : Prop := ∃ g : Nat → Nat, (∀ (k : Nat) (q : Nat × va_E), Y[k]? = some q → X[g k]? = some q) ∧ ∀ i j : Nat, i < Y.length → j < Y.length → g i = g j → i = j
theorem sb.P {D : va_G} {Y : va_W} {H : Heap} (h : sb X Y) (hP : va_P D vwCl X H) : va_P D vwCl Y H := by
  obtain ⟨g, h1, -⟩ := h
  exact hP.by g h1
theorem sb.D {A : Nat → Prop} {Y : va_W} (h : sb X Y) (hD : va_D A X) : va_D A Y := by
  obtain ⟨g, h1, h2⟩ := h
  exact hD.by g h1 h2
theorem sb_rf (X : va_W) : sb X X := ⟨id, fun _ _ h => h, fun _ _ _ _ h => h⟩
theorem sb_tr {X Y Z : va_W} (h : sb X Y) (h2 : sb Y Z) : sb X Z := by
  obtain ⟨g, g1, g2⟩ := h
  obtain ⟨f, f1, f2⟩ := h2
  have lt : ∀ k, k < Z.length → f k < Y.length := fun k hk => by
    have := f1 k Z[k] (List.getElem?_eq_getElem hk)
    exact (List.getElem?_eq_some_iff.mp this).1
  exact ⟨fun k => g (f k), fun k q hk => g1 _ q (f1 k q hk), fun i j hi hj e => f2 i j hi hj (g2 _ _ (lt i hi) (lt j hj) e)⟩
theorem sb_of {X Y : va_W} (is : List Nat) (hn : va_nd is = true) (hs : is.map (fun i => X[i]?) = Y.map some) : sb X Y := by
  have hlen : is.length = Y.length := by simpa using congrArg List.length hs
  have at' : ∀ k, k < Y.length → ∃ i, is[k]? = some i ∧ X[i]? = Y[k]? := by
    intro k hk
    have h2 : (is.map (fun i => X[i]?))[k]? = some (some Y[k]) := by rw [hs, List.getElem?_map, List.getElem?_eq_getElem hk]; rfl
    rw [List.getElem?_map] at h2
    cases hb : is[k]? with
    | none => rw [hb] at h2; cases h2
    | some b => rw [hb] at h2; exact ⟨b, rfl, (Option.some.inj h2).trans (List.getElem?_eq_getElem hk).symm⟩
  refine ⟨fun k => (is[k]?).getD 0, fun k q hk => ?_, fun i j hi hj e => ?_⟩
  · obtain ⟨i, h1, h2⟩ := at' k (List.getElem?_eq_some_iff.mp hk).1
    show X[(is[k]?).getD 0]? = some q
    rw [h1]
    exact h2.trans hk
  · obtain ⟨a, h1, -⟩ := at' i hi
    obtain ⟨b, h2, -⟩ := at' j hj
    dsimp only at e
    rw [h1, h2] at e
    have e' : a = b := e
    subst e'
    exact va_nd_inj is hn i j a h1 h2
/-- the same, with a tail that stays -/
theorem sb_tail {X Y : va_W} (Z : va_W) (h : sb X Y) : sb (X ++ Z) (Y ++ Z) := by
  obtain ⟨g, g1, g2⟩ := h
  have lt : ∀ k, k < Y.length → g k < X.length := fun k hk => (List.getElem?_eq_some_iff.mp (g1 k Y[k] (List.getElem?_eq_getElem hk))).1
  refine ⟨fun k => if k < Y.length then g k else X.length + (k - Y.length), fun k q hk => ?_, fun i j hi hj e => ?_⟩
  · dsimp only
    by_cases h : k < Y.length
    · rw [if_pos h, List.getElem?_append_left (lt k h)]
      rw [List.getElem?_append_left h] at hk
      exact g1 k q hk
    · rw [if_neg h, List.getElem?_append_right (by omega)]
      rw [List.getElem?_append_right (by omega)] at hk
      rw [show X.length + (k - Y.length) - X.length = k - Y.length by omega]
      exact hk
  · dsimp only at e
    by_cases h1 : i < Y.length <;> by_cases h2 : j < Y.length
    · rw [if_pos h1, if_pos h2] at e; exact g2 i j h1 h2 e
    · rw [if_pos h1, if_neg h2] at e; have := lt i h1; omega
    · rw [if_neg h1, if_pos h2] at e; have := lt j h2; omega
    · rw [if_neg h1, if_neg h2] at e; omega
theorem sb_swap (a b c : va_W) : sb ((a ++ b) ++ c) ((a ++ c) ++ b) := by
  refine ⟨_, va_swapG, fun i j hi hj e => ?_⟩
  simp only [List.length_append] at hi hj
  by_cases h1 : i < a.length <;> by_cases h2 : j < a.length <;> by_cases h3 : i < a.length + c.length <;> by_cases h4 : j < a.length + c.length <;> simp only [h1, h2, h3, h4, if_true, if_false] at e <;> omega
theorem xw_X {Y : va_W} (h : sb X Y) (kk : ww x Y L k n pc st) : ww x X L k n pc st := fun H locs ls hP hD hS hl => kk H locs ls (h.P hP) (h.D hD) hS hl
theorem xw_wide {k' n' : Nat} (h1 : k ≤ k') (h2 : n ≤ n') (kk : ww x X L k' n' pc st) : ww x X L k n pc st := fun H locs ls hP hD hS hl => W.widen h1 h2 (kk H locs ls hP hD hS hl)
end R
