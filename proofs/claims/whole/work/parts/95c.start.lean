/-! the law's start: what the tables and the launch's statics say -/
abbrev fl0 : List Cond := flatC (Jvm.Cond.and given_1 narrow_1)
theorem mC : ∀ q ∈ nC, Cond.castable q.1 q.2 ∈ lw_tbl := by decide +kernel
theorem mD : ∀ q ∈ nD, Cond.declares q ∈ lw_tbl := by decide +kernel
theorem mM : ∀ q ∈ nM, Cond.methodLinkNest q.1 q.2.1 q.2.2 "AnagramButcher" ∈ lw_tbl := by decide +kernel
theorem mF : ∀ q ∈ nF, Cond.declares q.2.1 ∈ lw_tbl ∧ Cond.interfaceMethod q.2.1.cls q.2.1.cls q.2.1.name q.2.1.desc ∈ lw_tbl ∧ Cond.publicMethod q.2.2 ∈ lw_tbl ∧ Cond.unhidden q.1 q.2.1.name q.2.1.desc ∈ lw_tbl ∧ Cond.castable q.1 q.2.1.cls ∈ lw_tbl := by decide +kernel
theorem mS1 : ∀ q ∈ nS, Cond.stringRef "AnagramButcher" q.1 q.2 ∈ lw_tbl := by decide +kernel
theorem mS2 : ∀ q ∈ nS, Cond.exactly (.string "AnagramButcher" q.1) "java/lang/String" ∈ fl0 := by decide +kernel
theorem mN : ∀ q ∈ nN, Cond.not (.castable q.1 q.2) ∈ fl0 := by decide +kernel
theorem mT : ∀ w ∈ [Cond.declares ⟨"java/lang/Object", "getClass", "()Ljava/lang/Class;"⟩, Cond.arrayOver (.object "java/lang/Object"), Cond.arrayClass .int, Cond.arrayClass .long, Cond.arrayClass .boolean, Cond.laysStatic Bundle.tN "UNASSIGNED_STACK" Bundle.steD, Cond.laysStatic Bundle.tN "SUPPRESSED_SENTINEL" Bundle.listD, Cond.initialized Bundle.tN, Cond.laysStatic "java/lang/String" "COMPACT_STRINGS" "Z", Cond.initialized "java/lang/String", Cond.laysStatic "java/util/ArrayList" "DEFAULTCAPACITY_EMPTY_ELEMENTDATA" "[Ljava/lang/Object;", Cond.initialized "java/util/ArrayList",
  Cond.instantiable RJx4a65c 3, Cond.instantiable RX0 4, Cond.instantiable RX1 3, Cond.instantiable RX2 1, Cond.instantiable RX3 5, Cond.instantiable RX4 3, Cond.instantiable RX5 3, Cond.instantiable RX6 2, Cond.instantiable RX8 5, Cond.instantiable RX9 19,
  Cond.stringRef "AnagramButcher$Stock" 70 "aeiou", Cond.stringRef "AnagramButcher$Stock" 76 "jqxz", Cond.stringRef "AnagramButcher$Stock" 78 "mw"], w ∈ lw_tbl := by decide +kernel
def eld : Term := .static "java/util/ArrayList" "DEFAULTCAPACITY_EMPTY_ELEMENTDATA" "[Ljava/lang/Object;"
theorem mG : ∀ w ∈ [Cond.isRef (.mirror "[Ljava/lang/Object;"), Cond.isRef (.static Bundle.tN "UNASSIGNED_STACK" Bundle.steD), Cond.isRef (.static Bundle.tN "SUPPRESSED_SENTINEL" Bundle.listD), Cond.eq (.static "java/lang/String" "COMPACT_STRINGS" "Z") (.int 1), Cond.arrayOf eld (.object "java/lang/Object"), Cond.eq (.length eld) (.int 0)], w ∈ fl0 := by decide +kernel
def kst (i : Nat) : Term := .string "AnagramButcher$Stock" ([70, 76, 78].getD i 0)
def kvl (i : Nat) : Term := .field (kst i) "java/lang/String" "value" "[B"
theorem mK1 : ∀ i : Nat, i < 3 → Cond.exactly (kst i) "java/lang/String" ∈ fl0 ∧ Cond.eq (.field (kst i) "java/lang/String" "coder" "B") (.int 0) ∈ fl0 ∧ Cond.arrayOf (kvl i) .byte ∈ fl0 ∧ Cond.eq (.length (kvl i)) (.int (Int32.ofNat (nKlen.getD i 0))) ∈ fl0 := by decide +kernel
theorem mK2 : ∀ i : Nat, i < 3 → ∀ j : Nat, j < nKlen.getD i 0 → Cond.eq (.elem (kvl i) (.int (Int32.ofNat j))) (.int ((nKbyt.getD i []).getD j 0)) ∈ fl0 := by decide +kernel
theorem mK3 : ∀ i : Nat, i < 3 → ∀ j : Nat, j < 3 → i ≠ j → Cond.not (.eq (kst i) (kst j)) ∈ fl0 ∨ Cond.not (.eq (kst j) (kst i)) ∈ fl0 := by decide +kernel
theorem arr_of {s : State} {c : ClassId} {k : Class} {comp : ClassId} {ty : FieldType} (h2 : s.vm.classes[c]? = some k) (h3 : k.kind = .array comp ty) : ArrOfT s c ty := fun N z => ⟨fun k h => (by cases h), k, h2, comp, h3⟩
section ST
variable {s : State} {args : Array Value}
theorem st_K (hts : ∀ w ∈ lw_tbl, w.before args s = true) : ∃ d : Nat → ClassId × (Nat → Nat), ∀ (k : Nat) (q : vw_C), vwCl[k]? = some q → u_Kn s q.1 q.2.1 q.2.2 (d k).1 (d k).2 := by
  obtain ⟨c0, j0, h0⟩ := u_known (C := RJx4a65c) (T := TJx4a65c) (N := 3) (n := 3) hts wx_Jx4a65c (hts _ (mT _ (by decide +kernel)))
  obtain ⟨c1, j1, h1⟩ := u_known (C := RX0) (T := TX0) (N := 4) (n := 4) hts wx_X0 (hts _ (mT _ (by decide +kernel)))
  obtain ⟨c2, j2, h2⟩ := u_known (C := RX1) (T := TX1) (N := 3) (n := 3) hts wx_X1 (hts _ (mT _ (by decide +kernel)))
  obtain ⟨c3, j3, h3⟩ := u_known (C := RX2) (T := TX2) (N := 1) (n := 1) hts wx_X2 (hts _ (mT _ (by decide +kernel)))
  obtain ⟨c4, j4, h4⟩ := u_known (C := RX3) (T := TX3) (N := 5) (n := 5) hts wx_X3 (hts _ (mT _ (by decide +kernel)))
  obtain ⟨c5, j5, h5⟩ := u_known (C := RX4) (T := TX4) (N := 3) (n := 3) hts wx_X4 (hts _ (mT _ (by decide +kernel)))
  obtain ⟨c6, j6, h6⟩ := u_known (C := RX5) (T := TX5) (N := 3) (n := 3) hts wx_X5 (hts _ (mT _ (by decide +kernel)))
  obtain ⟨c7, j7, h7⟩ := u_known (C := RX6) (T := TX6) (N := 2) (n := 2) hts wx_X6 (hts _ (mT _ (by decide +kernel)))
  obtain ⟨c8, j8, h8⟩ := u_known (C := RX8) (T := TX8) (N := 5) (n := 5) hts wx_X8 (hts _ (mT _ (by decide +kernel)))
  obtain ⟨c9, j9, h9⟩ := u_known (C := RX9) (T := TX9) (N := 19) (n := 19) hts wx_X9 (hts _ (mT _ (by decide +kernel)))
  refine ⟨fun k => match k with
    | 0 => (c0, j0) | 1 => (c1, j1) | 2 => (c2, j2) | 3 => (c3, j3) | 4 => (c4, j4) | 5 => (c5, j5) | 6 => (c6, j6) | 7 => (c7, j7) | 8 => (c8, j8) | _ => (c9, j9), fun k q hq => ?_⟩
  match k, hq with
  | 0, hq => cases hq; exact h0
  | 1, hq => cases hq; exact h1
  | 2, hq => cases hq; exact h2
  | 3, hq => cases hq; exact h3
  | 4, hq => cases hq; exact h4
  | 5, hq => cases hq; exact h5
  | 6, hq => cases hq; exact h6
  | 7, hq => cases hq; exact h7
  | 8, hq => cases hq; exact h8
  | 9, hq => cases hq; exact h9
  | k + 10, hq => simp [vwCl] at hq
theorem st_A {ty : FieldType} (hp : ∀ c : ClassId, s.vm.findClass ("[" ++ ty.toString) = some c → va_RA s c ty) (h : (Cond.arrayClass ty).before args s = true) : ∃ c : ClassId, ArrOfT s c ty ∧ va_RA s c ty := by
  obtain ⟨c, k, comp, h1, h2, h3⟩ := Cond.arrayClass_spec h
  exact ⟨c, arr_of h2 h3, hp c h1⟩
theorem st_all (hts : ∀ w ∈ lw_tbl, w.before args s = true) (hgv : (Jvm.Cond.and given_1 narrow_1).before args s = true) : ∃ g : Gx, va_K (gD g) vwCl (TY g) s ∧ am g (fun q : Nat => s.heap.size ≤ q) s s.heap := by
  have hs : ∀ w ∈ fl0, w.before args s = true := flat_of_before _ hgv
  have hT := fun w hw => hts w (mT w hw)
  have hG := fun w hw => hs w (mG w hw)
  have hA : ∀ a : Nat, a < s.heap.size → ¬ (fun q : Nat => s.heap.size ≤ q) a := fun a h => Nat.not_le.mpr h
  obtain ⟨d, hd⟩ := st_K hts
  obtain ⟨cI, aI, rI⟩ := st_A (ty := .int) (fun c h => h) (hT _ (by decide +kernel))
  obtain ⟨cJ, aJ, rJ⟩ := st_A (ty := .long) (fun c h => h) (hT _ (by decide +kernel))
  obtain ⟨cZ, aZ, rZ⟩ := st_A (ty := .boolean) (fun c h => h) (hT _ (by decide +kernel))
  have hO : (Cond.arrayOver (.object "java/lang/Object")).before args s = true := hT _ (by decide +kernel)
  obtain ⟨comp, cO, kO, o1, -, o3, o4, o5⟩ := Cond.arrayOver_spec hO
  obtain ⟨mi, hmi⟩ := va_Mi.of (hG (Cond.isRef (.mirror "[Ljava/lang/Object;")) (by decide +kernel))
  obtain ⟨adK, adV, hS, hSe⟩ := vk_Sof (args := args) (s := s) (N := 3) (tm := kst) (len := nKlen) (byt := nKbyt) (A := fun q : Nat => s.heap.size ≤ q) (by decide +kernel) (fun i hi => hs _ (mK1 i hi).1) (fun i hi => hs _ (mK1 i hi).2.1) (fun i hi => hs _ (mK1 i hi).2.2.1) (fun i hi => hs _ (mK1 i hi).2.2.2) (fun i hi j hj => hs _ (mK2 i hi j hj)) (fun i j hi hj hne => (mK3 i hi j hj hne).imp (hs _) (hs _)) hA
  obtain ⟨t, ht, hTt⟩ := va_Tof (args := args) (s := s) (tm := eld) (ty := .object "java/lang/Object") (N := 0) (f := fun _ => .null) (A := fun q : Nat => s.heap.size ≤ q) (by decide) (hG _ (by decide +kernel)) (va_eqt (hG _ (by decide +kernel))) (fun j hj => absurd hj (Nat.not_lt_zero j)) hA
  refine ⟨(fun k => (d k).1, fun k => (d k).2, cI, cJ, cZ, cO, adK, adV, fun i => if i = 0 then mi else t), ⟨hd, fun k q hk => ?_⟩, ⟨?_, ?_⟩⟩
  · match k, hk with
    | 0, hk => cases hk; exact ⟨aI, rI⟩
    | 1, hk => cases hk; exact ⟨aJ, rJ⟩
    | 2, hk => cases hk; exact ⟨aZ, rZ⟩
    | 3, hk => cases hk; exact ⟨arr_of o3 o4, kO, comp, o3, o4, o1, o5⟩
    | k + 4, hk => simp [TY] at hk
  · refine ⟨fun q hq => va_Nw.of rfl (hts _ (mC q hq)), fun q hq => va_Nw.of rfl (hts _ (mD q hq)), fun q hq => va_Nw.of rfl (hts _ (mM q hq)), fun q hq => ?_, fun q hq => ?_, fun q hq => va_Nc.of (hs _ (mN q hq)), va_Dc.of (hT _ (by decide +kernel)), hmi, vk_R.of (hT _ (by decide +kernel)) (hSe 0 (by decide)), vk_R.of (hT _ (by decide +kernel)) (hSe 1 (by decide)), vk_R.of (hT _ (by decide +kernel)) (hSe 2 (by decide)), va_AO.of hO⟩
    · have h := mF q hq
      exact va_Fw.of (hts _ h.1) (hts _ h.2.1) (hts _ h.2.2.1) (hts _ h.2.2.2.1) (hts _ h.2.2.2.2)
    · obtain ⟨a, c, cA, kA, q1, -⟩ := Cond.exactly_spec (args := args) (first := s) (o := none) (s := s) (idx := []) (t := .string "AnagramButcher" q.1) (cls := "java/lang/String") (hs _ (mS2 q hq))
      exact ⟨a, vk_R.of (hts _ (mS1 q hq)) q1⟩
  · exact ⟨vx_Zqof (hT _ (by decide +kernel)) (hT _ (by decide +kernel)) (hG _ (by decide +kernel)) hA, vx_Zqof (hT _ (by decide +kernel)) (hT _ (by decide +kernel)) (hG _ (by decide +kernel)) hA, va_Zof (hT _ (by decide +kernel)) (hT _ (by decide +kernel)) (va_eqt (hG _ (by decide +kernel))) hA, va_Zref (hT _ (by decide +kernel)) (hT _ (by decide +kernel)) ht hA, hTt, hS⟩
end ST
