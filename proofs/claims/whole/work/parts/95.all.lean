/-! the law's words stand in the tables -/
theorem wr_1 : ∀ w ∈ wsL_law0_r1, w ∈ lw_tbl := fun w h => (goodIn_p wsL_law0_r1 [81, 84] (by decide +kernel) (by decide +kernel) w h).1
theorem wr_2 : ∀ w ∈ wsL_law0_r2, w ∈ lw_tbl := fun w h => (goodIn_p wsL_law0_r2 [89, 95] (by decide +kernel) (by decide +kernel) w h).1
theorem wr_3 : ∀ w ∈ wsL_law0_r3, w ∈ lw_tbl := fun w h => (goodIn_p wsL_law0_r3 [109, 130, 136, 140, 144] (by decide +kernel) (by decide +kernel) w h).1
theorem wr_4 : ∀ w ∈ wsL_law0_r4, w ∈ lw_tbl := fun w h => (goodIn_p wsL_law0_r4 [148, 152, 158, 162, 165] (by decide +kernel) (by decide +kernel) w h).1
theorem wr_5 : ∀ w ∈ wsL_law0_r5, w ∈ lw_tbl := fun w h => (goodIn_p wsL_law0_r5 [171, 174, 168, 177, 180, 186] (by decide +kernel) (by decide +kernel) w h).1
theorem wr_6 : ∀ w ∈ wsL_law0_r6, w ∈ lw_tbl := fun w h => (goodIn_p wsL_law0_r6 [189, 192, 195, 200, 203, 206, 215] (by decide +kernel) (by decide +kernel) w h).1
theorem wr_7 : ∀ w ∈ wsL_law0_r7, w ∈ lw_tbl := fun w h => (goodIn_p wsL_law0_r7 [218, 221, 225, 230, 248] (by decide +kernel) (by decide +kernel) w h).1
theorem wr_8 : ∀ w ∈ wsL_law0_r8, w ∈ lw_tbl := fun w h => (goodIn_p wsL_law0_r8 [254, 257, 260, 299] (by decide +kernel) (by decide +kernel) w h).1
theorem wr_9 : ∀ w ∈ wsL_law0_r9, w ∈ lw_tbl := fun w h => (goodIn_p wsL_law0_r9 [1083, 1087] (by decide +kernel) (by decide +kernel) w h).1
theorem wr_10 : ∀ w ∈ wsL_law0_r10, w ∈ lw_tbl := fun w h => (goodIn_p wsL_law0_r10 [440, 443, 446, 365] (by decide +kernel) (by decide +kernel) w h).1
theorem wr_11 : ∀ w ∈ wsL_law0_r11, w ∈ lw_tbl := fun w h => (goodIn_p wsL_law0_r11 [381, 521, 525, 528, 350, 358] (by decide +kernel) (by decide +kernel) w h).1
theorem wr_12 : ∀ w ∈ wsL_law0_r12, w ∈ lw_tbl := fun w h => (goodIn_p wsL_law0_r12 [346, 548, 553, 404, 1154, 1157] (by decide +kernel) (by decide +kernel) w h).1
theorem wr_13 : ∀ w ∈ wsL_law0_r13, w ∈ lw_tbl := fun w h => (goodIn_p wsL_law0_r13 [1160, 1164, 1168, 1172, 1176, 1150] (by decide +kernel) (by decide +kernel) w h).1
theorem wr_14 : ∀ w ∈ wsL_law0_r14, w ∈ lw_tbl := fun w h => (goodIn_p wsL_law0_r14 [562, 582, 586, 1180, 342] (by decide +kernel) (by decide +kernel) w h).1
theorem wr_15 : ∀ w ∈ wsL_law0_r15, w ∈ lw_tbl := fun w h => (goodIn_p wsL_law0_r15 [1184, 594, 597, 1188] (by decide +kernel) (by decide +kernel) w h).1
theorem wr_16 : ∀ w ∈ wsL_law0_r16, w ∈ lw_tbl := fun w h => (goodIn_p wsL_law0_r16 [1192, 1196, 1200, 1203, 1206, 620] (by decide +kernel) (by decide +kernel) w h).1
theorem wr_17 : ∀ w ∈ wsL_law0_r17, w ∈ lw_tbl := fun w h => (goodIn_p wsL_law0_r17 [1210, 627, 362, 369, 373] (by decide +kernel) (by decide +kernel) w h).1
theorem wr_18 : ∀ w ∈ wsL_law0_r18, w ∈ lw_tbl := fun w h => (goodIn_p wsL_law0_r18 [377, 385, 391, 395, 400] (by decide +kernel) (by decide +kernel) w h).1
theorem wr_19 : ∀ w ∈ wsL_law0_r19, w ∈ lw_tbl := fun w h => (goodIn_p wsL_law0_r19 [1214, 1218, 1222, 1226, 634] (by decide +kernel) (by decide +kernel) w h).1
theorem wr_20 : ∀ w ∈ wsL_law0_r20, w ∈ lw_tbl := fun w h => (goodIn_p wsL_law0_r20 [1230, 1234, 354, 1238, 641] (by decide +kernel) (by decide +kernel) w h).1
theorem wr_21 : ∀ w ∈ wsL_law0_r21, w ∈ lw_tbl := fun w h => (goodIn_p wsL_law0_r21 [645, 1243, 652, 1247] (by decide +kernel) (by decide +kernel) w h).1
theorem wr_22 : ∀ w ∈ wsL_law0_r22, w ∈ lw_tbl := fun w h => (goodIn_p wsL_law0_r22 [659, 662, 669, 673, 677] (by decide +kernel) (by decide +kernel) w h).1
theorem wr_23 : ∀ w ∈ wsL_law0_r23, w ∈ lw_tbl := fun w h => (goodIn_p wsL_law0_r23 [682, 413, 1251, 1255, 689, 692] (by decide +kernel) (by decide +kernel) w h).1
theorem wr_24 : ∀ w ∈ wsL_law0_r24, w ∈ lw_tbl := fun w h => (goodIn_p wsL_law0_r24 [1259, 1263, 409, 1267, 700] (by decide +kernel) (by decide +kernel) w h).1
theorem wr_25 : ∀ w ∈ wsL_law0_r25, w ∈ lw_tbl := fun w h => (goodIn_p wsL_law0_r25 [704, 708, 1271, 715, 1275] (by decide +kernel) (by decide +kernel) w h).1
theorem wr_26 : ∀ w ∈ wsL_law0_r26, w ∈ lw_tbl := fun w h => (goodIn_p wsL_law0_r26 [723, 727, 1279, 1283] (by decide +kernel) (by decide +kernel) w h).1
theorem wr_27 : ∀ w ∈ wsL_law0_r27, w ∈ lw_tbl := fun w h => (goodIn_p wsL_law0_r27 [735, 739, 1287, 1290, 748] (by decide +kernel) (by decide +kernel) w h).1
theorem wr_28 : ∀ w ∈ wsL_law0_r28, w ∈ lw_tbl := fun w h => (goodIn_p wsL_law0_r28 [754, 759, 1294, 1298, 1302] (by decide +kernel) (by decide +kernel) w h).1
theorem wr_29 : ∀ w ∈ wsL_law0_r29, w ∈ lw_tbl := fun w h => (goodIn_p wsL_law0_r29 [767, 771, 774, 1306, 781] (by decide +kernel) (by decide +kernel) w h).1
theorem wr_30 : ∀ w ∈ wsL_law0_r30, w ∈ lw_tbl := fun w h => (goodIn_p wsL_law0_r30 [784, 789, 1310, 1314, 1319] (by decide +kernel) (by decide +kernel) w h).1
theorem wr_31 : ∀ w ∈ wsL_law0_r31, w ∈ lw_tbl := fun w h => (goodIn_p wsL_law0_r31 [796, 801, 805, 427, 812, 817] (by decide +kernel) (by decide +kernel) w h).1
theorem wr_32 : ∀ w ∈ wsL_law0_r32, w ∈ lw_tbl := fun w h => (goodIn_p wsL_law0_r32 [822, 846, 850, 854] (by decide +kernel) (by decide +kernel) w h).1
theorem wr_33 : ∀ w ∈ wsL_law0_r33, w ∈ lw_tbl := fun w h => (goodIn_p wsL_law0_r33 [858, 861, 866, 869] (by decide +kernel) (by decide +kernel) w h).1
theorem wr_34 : ∀ w ∈ wsL_law0_r34, w ∈ lw_tbl := fun w h => (goodIn_p wsL_law0_r34 [890, 1323, 1327, 1331] (by decide +kernel) (by decide +kernel) w h).1
theorem wr_35 : ∀ w ∈ wsL_law0_r35, w ∈ lw_tbl := fun w h => (goodIn_p wsL_law0_r35 [907, 911, 1335, 920] (by decide +kernel) (by decide +kernel) w h).1
theorem wr_36 : ∀ w ∈ wsL_law0_r36, w ∈ lw_tbl := fun w h => (goodIn_p wsL_law0_r36 [924, 1339, 1343, 1347, 1351] (by decide +kernel) (by decide +kernel) w h).1
theorem wr_37 : ∀ w ∈ wsL_law0_r37, w ∈ lw_tbl := fun w h => (goodIn_p wsL_law0_r37 [932, 1355, 939, 943, 947] (by decide +kernel) (by decide +kernel) w h).1
theorem wr_38 : ∀ w ∈ wsL_law0_r38, w ∈ lw_tbl := fun w h => (goodIn_p wsL_law0_r38 [953, 961, 965] (by decide +kernel) (by decide +kernel) w h).1
theorem wr_39 : ∀ w ∈ wsL_law0_r39, w ∈ lw_tbl := fun w h => (goodIn_p wsL_law0_r39 [971, 976, 1359, 1363, 1367, 1371] (by decide +kernel) (by decide +kernel) w h).1
theorem wr_40 : ∀ w ∈ wsL_law0_r40, w ∈ lw_tbl := fun w h => (goodIn_p wsL_law0_r40 [1375, 1379, 1383, 1387, 983] (by decide +kernel) (by decide +kernel) w h).1
theorem wr_41 : ∀ w ∈ wsL_law0_r41, w ∈ lw_tbl := fun w h => (goodIn_p wsL_law0_r41 [1391, 990, 994, 1395, 1001] (by decide +kernel) (by decide +kernel) w h).1
theorem wr_42 : ∀ w ∈ wsL_law0_r42, w ∈ lw_tbl := fun w h => (goodIn_p wsL_law0_r42 [1399, 1403, 417, 1407] (by decide +kernel) (by decide +kernel) w h).1
theorem wr_43 : ∀ w ∈ wsL_law0_r43, w ∈ lw_tbl := fun w h => (goodIn_p wsL_law0_r43 [1008, 1012, 1022, 1025, 1028, 1032] (by decide +kernel) (by decide +kernel) w h).1
theorem wr_44 : ∀ w ∈ wsL_law0_r44, w ∈ lw_tbl := fun w h => (goodIn_p wsL_law0_r44 [1411, 1415, 1040, 1419] (by decide +kernel) (by decide +kernel) w h).1
theorem wr_45 : ∀ w ∈ wsL_law0_r45, w ∈ lw_tbl := fun w h => (goodIn_p wsL_law0_r45 [1047, 1423, 1054, 1059, 1063] (by decide +kernel) (by decide +kernel) w h).1
theorem wr_46 : ∀ w ∈ wsL_law0_r46, w ∈ lw_tbl := fun w h => (goodIn_p wsL_law0_r46 [1427, 431, 1431, 1071, 1435] (by decide +kernel) (by decide +kernel) w h).1
theorem wr_47 : ∀ w ∈ wsL_law0_r47, w ∈ lw_tbl := fun w h => (goodIn_p wsL_law0_r47 [1078, 1439] (by decide +kernel) (by decide +kernel) w h).1
theorem wx_X8 : ∀ w ∈ wsX80, w ∈ lw_tbl := by decide +kernel
theorem wx_X9 : ∀ w ∈ wsX90, w ∈ lw_tbl := by decide +kernel
theorem wx_X1 : ∀ w ∈ wsX10, w ∈ lw_tbl := by decide +kernel
theorem wx_X5 : ∀ w ∈ wsX50, w ∈ lw_tbl := by decide +kernel
theorem wx_X0 : ∀ w ∈ wsX00, w ∈ lw_tbl := by decide +kernel
theorem wx_X3 : ∀ w ∈ wsX30, w ∈ lw_tbl := by decide +kernel
theorem wx_X2 : ∀ w ∈ wsX20, w ∈ lw_tbl := by decide +kernel
theorem wx_X6 : ∀ w ∈ wsX60, w ∈ lw_tbl := by decide +kernel
theorem wx_Jx4a65c : ∀ w ∈ wsJx4a65c0, w ∈ lw_tbl := by decide +kernel
theorem wx_X4 : ∀ w ∈ wsX40, w ∈ lw_tbl := by decide +kernel
theorem wr_all : ∀ w ∈ wsL_law0, w ∈ lw_tbl := by
  unfold wsL_law0
  exact List.forall_mem_append.mpr ⟨List.forall_mem_append.mpr ⟨List.forall_mem_append.mpr ⟨List.forall_mem_append.mpr ⟨List.forall_mem_append.mpr ⟨List.forall_mem_append.mpr ⟨List.forall_mem_append.mpr ⟨List.forall_mem_append.mpr ⟨List.forall_mem_append.mpr ⟨List.forall_mem_append.mpr ⟨List.forall_mem_append.mpr ⟨List.forall_mem_append.mpr ⟨wr_1, List.forall_mem_append.mpr ⟨wr_2, List.forall_mem_append.mpr ⟨wr_3, List.forall_mem_append.mpr ⟨wr_4, List.forall_mem_append.mpr ⟨wr_5, List.forall_mem_append.mpr ⟨wr_6, List.forall_mem_append.mpr ⟨wr_7, List.forall_mem_append.mpr ⟨wr_8, List.forall_mem_append.mpr ⟨wr_9, List.forall_mem_append.mpr ⟨wr_10, List.forall_mem_append.mpr ⟨wr_11, List.forall_mem_append.mpr ⟨wr_12, List.forall_mem_append.mpr ⟨wr_13, List.forall_mem_append.mpr ⟨wr_14, List.forall_mem_append.mpr ⟨wr_15, List.forall_mem_append.mpr ⟨wr_16, List.forall_mem_append.mpr ⟨wr_17, List.forall_mem_append.mpr ⟨wr_18, List.forall_mem_append.mpr ⟨wr_19, List.forall_mem_append.mpr ⟨wr_20, List.forall_mem_append.mpr ⟨wr_21, List.forall_mem_append.mpr ⟨wr_22, List.forall_mem_append.mpr ⟨wr_23, List.forall_mem_append.mpr ⟨wr_24, List.forall_mem_append.mpr ⟨wr_25, List.forall_mem_append.mpr ⟨wr_26, List.forall_mem_append.mpr ⟨wr_27, List.forall_mem_append.mpr ⟨wr_28, List.forall_mem_append.mpr ⟨wr_29, List.forall_mem_append.mpr ⟨wr_30, List.forall_mem_append.mpr ⟨wr_31, List.forall_mem_append.mpr ⟨wr_32, List.forall_mem_append.mpr ⟨wr_33, List.forall_mem_append.mpr ⟨wr_34, List.forall_mem_append.mpr ⟨wr_35, List.forall_mem_append.mpr ⟨wr_36, List.forall_mem_append.mpr ⟨wr_37, List.forall_mem_append.mpr ⟨wr_38, List.forall_mem_append.mpr ⟨wr_39, List.forall_mem_append.mpr ⟨wr_40, List.forall_mem_append.mpr ⟨wr_41, List.forall_mem_append.mpr ⟨wr_42, List.forall_mem_append.mpr ⟨wr_43, List.forall_mem_append.mpr ⟨wr_44, List.forall_mem_append.mpr ⟨wr_45, List.forall_mem_append.mpr ⟨wr_46, wr_47⟩⟩⟩⟩⟩⟩⟩⟩⟩⟩⟩⟩⟩⟩⟩⟩⟩⟩⟩⟩⟩⟩⟩⟩⟩⟩⟩⟩⟩⟩⟩⟩⟩⟩⟩⟩⟩⟩⟩⟩⟩⟩⟩⟩⟩⟩, wx_X8⟩, wx_X9⟩, wx_X1⟩, wx_X5⟩, wx_X0⟩, wx_X3⟩, wx_X2⟩, wx_X6⟩, wx_Jx4a65c⟩, wx_X4⟩, fun _ h => absurd h List.not_mem_nil⟩
theorem wsL_law_x0 : ∀ w ∈ (vx_atS RX8 56 "java/lang/IllegalStateException" ["java/lang/RuntimeException", "java/lang/Exception"]).filter goodWord, w ∈ lw_tbl := by decide +kernel
theorem wsL_law_x1 : ∀ w ∈ (vx_atS RX8 279 "java/lang/IllegalArgumentException" ["java/lang/RuntimeException", "java/lang/Exception"]).filter goodWord, w ∈ lw_tbl := by decide +kernel
theorem wsL_law_x2 : ∀ w ∈ (vx_atS RX8 82 "java/util/NoSuchElementException" ["java/lang/RuntimeException", "java/lang/Exception"]).filter goodWord, w ∈ lw_tbl := by decide +kernel
theorem wsL_law_x3 : ∀ w ∈ (vx_atS RX8 267 "java/lang/IndexOutOfBoundsException" ["java/lang/RuntimeException", "java/lang/Exception"]).filter goodWord, w ∈ lw_tbl := by decide +kernel
theorem wsL_law_in : ∀ w ∈ wsL_law, w ∈ lw_tbl := by
  unfold wsL_law
  exact List.forall_mem_append.mpr ⟨List.forall_mem_append.mpr ⟨List.forall_mem_append.mpr ⟨List.forall_mem_append.mpr ⟨wr_all, wsL_law_x0⟩, wsL_law_x1⟩, wsL_law_x2⟩, wsL_law_x3⟩
/-! THE CLAIM OUT OF ONE WALK OF THE LAW'S BODY. Your part is whole_start (and what it stands on); all else here is the same for every law, but numbers. -/
def R_law : String := "AnagramButcherLaw"
def lw_P (b : Addr) (xs : List Int32) (args : Array Value) (s : State) : Prop := args = #[.ref b] ∧ s.IntsAt b xs ∧ xs.length ≤ 2560 ∧ (Jvm.Cond.and given_1 narrow_1).before args s = true
def lw_Q (_ : Array Value) (s : State) (o : Outcome) (t : State) : Prop := o = .returned (some (.int 1)) ∧ Framed s o t [] 601024 7293034
def lw_Z (below : List Frame) (a : Array Value) (s : State) : State → Prop := fun t => ∃ o, t.status = .running ∧ Ended t below o ∧ lw_Q a s o t
/-- the law's own end, with 1 on the stack, nothing written that was there before, its room as the claim has it -/
theorem lw_ret {p : Program} {l : Launch} {e : Env} {s : State} {m : MethodId} {below : List Frame} {meth : Method} {c : Code} {b : Nat} (hx : p.tables.exec = Jvm.exec) (hb : c.code = code) (hr : meth.sig.returnType = ret) (hlocks : meth.locks = false) {pc : Nat} {H : Heap} {ls : Array Slot} (hdg : decode code pc = .ok (.ireturn, 1)) : W p l e room_1 s m #[Value.ref b] below meth c H [] 601024 7293034 (lw_Z below #[Value.ref b] s) (F0 m pc ls [.int 1]) := by
  intro T hT X
  obtain ⟨fs, hret, hrun, hended, hW, hframe⟩ := X.leave (v := some (.int 1)) (hlocks := hlocks) (fun h => by rw [hr] at h; cases h)
  have hmeth' : T.vm.method? m = some meth := X.method'
  refine ⟨T.setFrames fs, ?_, .returned (some (.int 1)), hrun, hended, rfl, ⟨_, rfl⟩, hW, hframe⟩
  jvm_step X.here [X.here.top, hx, hb, hdg, hmeth', hr, ret, narrow_b1]
  (try refine ⟨rfl, ?_⟩); (try refine ⟨rfl, ?_⟩)
  first | (intro acts; rw [hret _ acts rfl rfl rfl]) | rw [hret _ _ rfl rfl rfl]
  exact Steps.refl _
/-- what holds at the law's entry: the machine, the code, the tables' words (any of lw_tbl by 'hts w (by decide +kernel)'), the script of L ints xs at the cell b, what the Statement gives of the start (any of its parts by flat_of_before) -/
def lw_At (p : Program) (s : State) (m : MethodId) (meth : Method) (c : Code) (b L : Nat) (xs : Nat → Int32) : Prop :=
  p.tables.exec = Jvm.exec ∧ c.code = code ∧ meth.sig.returnType = ret ∧ c.maxLocals = 8 ∧ s.vm.findClass R_law = some m.cls ∧ (∀ w ∈ lw_tbl, w.before #[Value.ref b] s = true) ∧ va_X b L xs s s.heap ∧ b < s.heap.size ∧ meth.locks = false ∧ (Jvm.Cond.and given_1 narrow_1).before #[Value.ref b] s = true
/-! the law's start: what the tables and the launch's statics say -/
abbrev fl0 : List Cond := flatC (Jvm.Cond.and given_1 narrow_1)
theorem mC : ∀ q ∈ nC, Cond.castable q.1 q.2 ∈ lw_tbl := by decide +kernel
theorem mD : ∀ q ∈ nD, Cond.declares q ∈ lw_tbl := by decide +kernel
theorem mM : ∀ q ∈ nM, Cond.methodLinkNest q.1 q.2.1 q.2.2 "AnagramButcher" ∈ lw_tbl := by decide +kernel
theorem mF : ∀ q ∈ nF, Cond.declares q.2.1 ∈ lw_tbl ∧ Cond.interfaceMethod q.2.1.cls q.2.1.cls q.2.1.name q.2.1.desc ∈ lw_tbl ∧ Cond.publicMethod q.2.2 ∈ lw_tbl ∧ Cond.unhidden q.1 q.2.1.name q.2.1.desc ∈ lw_tbl ∧ Cond.castable q.1 q.2.1.cls ∈ lw_tbl := by decide +kernel
theorem mS1 : ∀ q ∈ nS, Cond.stringRef "AnagramButcher" q.1 q.2 ∈ lw_tbl := by decide +kernel
theorem mS2 : ∀ q ∈ nS, Cond.exactly (.string "AnagramButcher" q.1) "java/lang/String" ∈ fl0 := by decide +kernel
theorem mN : ∀ q ∈ nN, Cond.not (.castable q.1 q.2) ∈ fl0 := by decide +kernel
theorem mT : ∀ w ∈ [Cond.declares ⟨"java/lang/Object", "getClass", "()Ljava/lang/Class;"⟩, Cond.arrayOver (.object "java/lang/Object"), Cond.arrayClass .int, Cond.arrayClass .long, Cond.arrayClass .boolean, Cond.laysStatic Bundle.tN "UNASSIGNED_STACK" Bundle.steD, Cond.laysStatic Bundle.tN "SUPPRESSED_SENTINEL" Bundle.listD, Cond.initialized Bundle.tN, Cond.laysStatic "java/lang/String" "COMPACT_STRINGS" "Z", Cond.initialized "java/lang/String", Cond.laysStatic "java/util/ArrayList" "DEFAULTCAPACITY_EMPTY_ELEMENTDATA" "[Ljava/lang/Object;", Cond.initialized "java/util/ArrayList",
  Cond.instantiable RJx4a65c 3, Cond.instantiable RX0 4, Cond.instantiable RX1 3, Cond.instantiable RX2 1, Cond.instantiable RX3 5, Cond.instantiable RX4 3, Cond.instantiable RX5 3, Cond.instantiable RX6 2, Cond.instantiable RX8 5, Cond.instantiable RX9 19,
  Cond.stringRef "AnagramButcher$Stock" 70 "aeiou", Cond.stringRef "AnagramButcher$Stock" 76 "jqxz", Cond.stringRef "AnagramButcher$Stock" 78 "mw"], w ∈ lw_tbl := by decide +kernel
def eld : Term := .static "java/util/ArrayList" "DEFAULTCAPACITY_EMPTY_ELEMENTDATA" "[Ljava/lang/Object;"
theorem mG : ∀ w ∈ [Cond.isRef (.mirror "[Ljava/lang/Object;"), Cond.isRef (.static Bundle.tN "UNASSIGNED_STACK" Bundle.steD), Cond.isRef (.static Bundle.tN "SUPPRESSED_SENTINEL" Bundle.listD), Cond.eq (.static "java/lang/String" "COMPACT_STRINGS" "Z") (.int 1), Cond.arrayOf eld (.object "java/lang/Object"), Cond.eq (.length eld) (.int 0)], w ∈ fl0 := by decide +kernel
def kst (i : Nat) : Term := .string "AnagramButcher$Stock" ([70, 76, 78].getD i 0)
def kvl (i : Nat) : Term := .field (kst i) "java/lang/String" "value" "[B"
theorem mK1 : ∀ i : Nat, i < 3 → Cond.exactly (kst i) "java/lang/String" ∈ fl0 ∧ Cond.eq (.field (kst i) "java/lang/String" "coder" "B") (.int 0) ∈ fl0 ∧ Cond.arrayOf (kvl i) .byte ∈ fl0 ∧ Cond.eq (.length (kvl i)) (.int (Int32.ofNat (nKlen.getD i 0))) ∈ fl0 := by decide +kernel
theorem mK2 : ∀ i : Nat, i < 3 → ∀ j : Nat, j < nKlen.getD i 0 → Cond.eq (.elem (kvl i) (.int (Int32.ofNat j))) (.int ((nKbyt.getD i []).getD j 0)) ∈ fl0 := by decide +kernel
theorem mK3 : ∀ i : Nat, i < 3 → ∀ j : Nat, j < 3 → i ≠ j → Cond.not (.eq (kst i) (kst j)) ∈ fl0 ∨ Cond.not (.eq (kst j) (kst i)) ∈ fl0 := by decide +kernel
theorem arr_of {s : State} {c : ClassId} {k : Class} {comp : ClassId} {ty : FieldType} (h2 : s.vm.classes[c]? = some k) (h3 : k.kind = .array comp ty) : ArrOfT s c ty := fun N z => ⟨fun k h => (by cases h), k, h2, comp, h3⟩
section ST
variable {s : State} {args : Array Value}
theorem st_K (hts : ∀ w ∈ lw_tbl, w.before args s = true) : ∃ d : Nat → ClassId × (Nat → Nat), ∀ (k : Nat) (q : vw_C), vwCl[k]? = some q → u_Kn s q.1 q.2.1 q.2.2 (d k).1 (d k).2 := by
  obtain ⟨c0, j0, h0⟩ := u_known (C := RJx4a65c) (T := TJx4a65c) (N := 3) (n := 3) hts wx_Jx4a65c (hts _ (mT _ (by decide +kernel)))
  obtain ⟨c1, j1, h1⟩ := u_known (C := RX0) (T := TX0) (N := 4) (n := 4) hts wx_X0 (hts _ (mT _ (by decide +kernel)))
  obtain ⟨c2, j2, h2⟩ := u_known (C := RX1) (T := TX1) (N := 3) (n := 3) hts wx_X1 (hts _ (mT _ (by decide +kernel)))
  obtain ⟨c3, j3, h3⟩ := u_known (C := RX2) (T := TX2) (N := 1) (n := 1) hts wx_X2 (hts _ (mT _ (by decide +kernel)))
  obtain ⟨c4, j4, h4⟩ := u_known (C := RX3) (T := TX3) (N := 5) (n := 5) hts wx_X3 (hts _ (mT _ (by decide +kernel)))
  obtain ⟨c5, j5, h5⟩ := u_known (C := RX4) (T := TX4) (N := 3) (n := 3) hts wx_X4 (hts _ (mT _ (by decide +kernel)))
  obtain ⟨c6, j6, h6⟩ := u_known (C := RX5) (T := TX5) (N := 3) (n := 3) hts wx_X5 (hts _ (mT _ (by decide +kernel)))
  obtain ⟨c7, j7, h7⟩ := u_known (C := RX6) (T := TX6) (N := 2) (n := 2) hts wx_X6 (hts _ (mT _ (by decide +kernel)))
  obtain ⟨c8, j8, h8⟩ := u_known (C := RX8) (T := TX8) (N := 5) (n := 5) hts wx_X8 (hts _ (mT _ (by decide +kernel)))
  obtain ⟨c9, j9, h9⟩ := u_known (C := RX9) (T := TX9) (N := 19) (n := 19) hts wx_X9 (hts _ (mT _ (by decide +kernel)))
  refine ⟨fun k => match k with
    | 0 => (c0, j0) | 1 => (c1, j1) | 2 => (c2, j2) | 3 => (c3, j3) | 4 => (c4, j4) | 5 => (c5, j5) | 6 => (c6, j6) | 7 => (c7, j7) | 8 => (c8, j8) | _ => (c9, j9), fun k q hq => ?_⟩
  match k, hq with
  | 0, hq => cases hq; exact h0
  | 1, hq => cases hq; exact h1
  | 2, hq => cases hq; exact h2
  | 3, hq => cases hq; exact h3
  | 4, hq => cases hq; exact h4
  | 5, hq => cases hq; exact h5
  | 6, hq => cases hq; exact h6
  | 7, hq => cases hq; exact h7
  | 8, hq => cases hq; exact h8
  | 9, hq => cases hq; exact h9
  | k + 10, hq => simp [vwCl] at hq
theorem st_A {ty : FieldType} (hp : ∀ c : ClassId, s.vm.findClass ("[" ++ ty.toString) = some c → va_RA s c ty) (h : (Cond.arrayClass ty).before args s = true) : ∃ c : ClassId, ArrOfT s c ty ∧ va_RA s c ty := by
  obtain ⟨c, k, comp, h1, h2, h3⟩ := Cond.arrayClass_spec h
  exact ⟨c, arr_of h2 h3, hp c h1⟩
theorem st_all (hts : ∀ w ∈ lw_tbl, w.before args s = true) (hgv : (Jvm.Cond.and given_1 narrow_1).before args s = true) : ∃ g : Gx, va_K (gD g) vwCl (TY g) s ∧ am g (fun q : Nat => s.heap.size ≤ q) s s.heap := by
  have hs : ∀ w ∈ fl0, w.before args s = true := flat_of_before _ hgv
  have hT := fun w hw => hts w (mT w hw)
  have hG := fun w hw => hs w (mG w hw)
  have hA : ∀ a : Nat, a < s.heap.size → ¬ (fun q : Nat => s.heap.size ≤ q) a := fun a h => Nat.not_le.mpr h
  obtain ⟨d, hd⟩ := st_K hts
  obtain ⟨cI, aI, rI⟩ := st_A (ty := .int) (fun c h => h) (hT _ (by decide +kernel))
  obtain ⟨cJ, aJ, rJ⟩ := st_A (ty := .long) (fun c h => h) (hT _ (by decide +kernel))
  obtain ⟨cZ, aZ, rZ⟩ := st_A (ty := .boolean) (fun c h => h) (hT _ (by decide +kernel))
  have hO : (Cond.arrayOver (.object "java/lang/Object")).before args s = true := hT _ (by decide +kernel)
  obtain ⟨comp, cO, kO, o1, -, o3, o4, o5⟩ := Cond.arrayOver_spec hO
  obtain ⟨mi, hmi⟩ := va_Mi.of (hG (Cond.isRef (.mirror "[Ljava/lang/Object;")) (by decide +kernel))
  obtain ⟨adK, adV, hS, hSe⟩ := vk_Sof (args := args) (s := s) (N := 3) (tm := kst) (len := nKlen) (byt := nKbyt) (A := fun q : Nat => s.heap.size ≤ q) (by decide +kernel) (fun i hi => hs _ (mK1 i hi).1) (fun i hi => hs _ (mK1 i hi).2.1) (fun i hi => hs _ (mK1 i hi).2.2.1) (fun i hi => hs _ (mK1 i hi).2.2.2) (fun i hi j hj => hs _ (mK2 i hi j hj)) (fun i j hi hj hne => (mK3 i hi j hj hne).imp (hs _) (hs _)) hA
  obtain ⟨t, ht, hTt⟩ := va_Tof (args := args) (s := s) (tm := eld) (ty := .object "java/lang/Object") (N := 0) (f := fun _ => .null) (A := fun q : Nat => s.heap.size ≤ q) (by decide) (hG _ (by decide +kernel)) (va_eqt (hG _ (by decide +kernel))) (fun j hj => absurd hj (Nat.not_lt_zero j)) hA
  refine ⟨(fun k => (d k).1, fun k => (d k).2, cI, cJ, cZ, cO, adK, adV, fun i => if i = 0 then mi else t), ⟨hd, fun k q hk => ?_⟩, ⟨?_, ?_⟩⟩
  · match k, hk with
    | 0, hk => cases hk; exact ⟨aI, rI⟩
    | 1, hk => cases hk; exact ⟨aJ, rJ⟩
    | 2, hk => cases hk; exact ⟨aZ, rZ⟩
    | 3, hk => cases hk; exact ⟨arr_of o3 o4, kO, comp, o3, o4, o1, o5⟩
    | k + 4, hk => simp [TY] at hk
  · refine ⟨fun q hq => va_Nw.of rfl (hts _ (mC q hq)), fun q hq => va_Nw.of rfl (hts _ (mD q hq)), fun q hq => va_Nw.of rfl (hts _ (mM q hq)), fun q hq => ?_, fun q hq => ?_, fun q hq => va_Nc.of (hs _ (mN q hq)), va_Dc.of (hT _ (by decide +kernel)), hmi, vk_R.of (hT _ (by decide +kernel)) (hSe 0 (by decide)), vk_R.of (hT _ (by decide +kernel)) (hSe 1 (by decide)), vk_R.of (hT _ (by decide +kernel)) (hSe 2 (by decide)), va_AO.of hO⟩
    · have h := mF q hq
      exact va_Fw.of (hts _ h.1) (hts _ h.2.1) (hts _ h.2.2.1) (hts _ h.2.2.2.1) (hts _ h.2.2.2.2)
    · obtain ⟨a, c, cA, kA, q1, -⟩ := Cond.exactly_spec (args := args) (first := s) (o := none) (s := s) (idx := []) (t := .string "AnagramButcher" q.1) (cls := "java/lang/String") (hs _ (mS2 q hq))
      exact ⟨a, vk_R.of (hts _ (mS1 q hq)) q1⟩
  · exact ⟨vx_Zqof (hT _ (by decide +kernel)) (hT _ (by decide +kernel)) (hG _ (by decide +kernel)) hA, vx_Zqof (hT _ (by decide +kernel)) (hT _ (by decide +kernel)) (hG _ (by decide +kernel)) hA, va_Zof (hT _ (by decide +kernel)) (hT _ (by decide +kernel)) (va_eqt (hG _ (by decide +kernel))) hA, va_Zref (hT _ (by decide +kernel)) (hT _ (by decide +kernel)) ht hA, hTt, hS⟩
end ST
/-! the law's body from its entry -/
theorem ml_0 : (Cond.classLink RL 8 RX8 : Cond) ∈ wsL_law := by decide +kernel
theorem ml_1 : (Cond.instantiable RX8 5 : Cond) ∈ wsL_law := by decide +kernel
theorem ml_2 : (Cond.initialized RX8 : Cond) ∈ wsL_law := by decide +kernel
theorem ml_3 : (Cond.classLink RL 120 RX9 : Cond) ∈ wsL_law := by decide +kernel
theorem ml_4 : (Cond.instantiable RX9 19 : Cond) ∈ wsL_law := by decide +kernel
theorem ml_5 : (Cond.initialized RX9 : Cond) ∈ wsL_law := by decide +kernel
theorem ml_6 : (Cond.arrayClass .long : Cond) ∈ wsL_law := by decide +kernel
theorem ml_7 : (Cond.methodLink RL 119 yX8_init : Cond) ∈ wsL_law := by decide +kernel
theorem ml_8 : (Cond.instanceMethod yX8_init : Cond) ∈ wsL_law := by decide +kernel
theorem ml_9 : (Cond.methodLink RL 122 yX9_init : Cond) ∈ wsL_law := by decide +kernel
theorem ml_10 : (Cond.instanceMethod yX9_init : Cond) ∈ wsL_law := by decide +kernel
theorem il_X8 : ∀ w ∈ wsX80, w ∈ wsL_law := by decide +kernel
theorem il_X9 : ∀ w ∈ wsX90, w ∈ wsL_law := by decide +kernel
theorem inv_0 : ∀ rc rs : Nat, 59000 ≤ rc → 260000 ≤ rs → bud 512 ([] : List (Nat × Nat × Nat)).length ((0, 0, 0, []) : ZL).2.1 64 rc rs := fun rc rs h1 h2 => by
  refine ⟨?_, ?_, ?_⟩
  · show 0 + 20 * 512 ≤ 10240; omega
  · show 5 * (10240 - 0) + 10 * 512 ≤ rc; omega
  · show 3 * (10240 - 0) + 60 * 512 + 4 * (16000 - 0) + 6 * (20480 - 64) ≤ rs; omega
theorem row_0 (f : Nat → Int64) : rowIs 0 f [] := ⟨nI_0.symm, Nat.zero_le _, fun i n hi => by simp at hi⟩
theorem isU_0 : isU (fun _ => 0) (fun _ => 0) := fun l a b => ⟨nI_0.symm, by decide⟩
theorem law_walk {x : Cx} (hf : fx x rm_L_law RL cL_law wsL_law) (hn : xn x = 8) {b L : Nat} {sx : Nat → Int32} (hL : L ≤ 2560) (hst : (xl x).stackTraces = false) (hX : sX x b L sx)
    (hend : ∀ (X : va_W) (k n : Nat), k ≤ 601024 → n ≤ 7293034 → ww x X [] k n 2688 [.int 1]) : ww x [] [(0, .ref b)] 0 0 0 [] := by
  refine xw_new hf (pc := 0) dL_law_0 (ci := 8) il_X8 rfl tyX8_ok ml_0 ml_1 ml_2 [.null, .null, .null, .null, .null] (fun j hj => by rcases (show j = 0 ∨ j = 1 ∨ j = 2 ∨ j = 3 ∨ j = 4 by omega) with rfl | rfl | rfl | rfl | rfl <;> rfl) (Nat.le_of_ble_eq_true rfl) (Nat.le_of_ble_eq_true rfl) (fun q0 => ?_)
  show ww x [(q0, .inr (8, [.null, .null, .null, .null, .null]))] [(0, .ref b)] 1 5 3 [.ref q0]
  refine xw_dup hf (pc := 3) dL_law_3 rfl ?_
  refine xw_callI hf (pc := 4) (nA := 0) (Xr := []) (rest := [.ref q0]) (c_X8_init (xl x) (xg x) q0 (post := fun v1 v2 => isB v1 pr0 ∧ isWt v2) (p_x8i (fun v1 v2 a b => ⟨a, b⟩))) gL_law_X8_init (by rfl) ml_2 ml_7 ml_8 rfl (by rfl) (by decide +kernel) ⟨⟨(Nat.le_of_ble_eq_true rfl), (Nat.le_of_ble_eq_true rfl)⟩, (Nat.le_of_ble_eq_true rfl), (Nat.le_of_ble_eq_true rfl)⟩ (Nat.le_of_ble_eq_true rfl) (sb_of [0] rfl rfl) rfl dL_law_4 (fun v X1 hp => ?_)
  obtain ⟨q1, q2, q3, q4, q5, q6, q7, q8, q9, q10, q11, q12, q15, q16, q17, q18, q19, q20, q21, q22, q23, q24, q25, q26, q27, q28, q29, y13, y14, rfl, rfl, hb13, ht14⟩ := hp
  refine xw_X (sb_of [0, 1, 2, 3, 4, 5, 6, 7, 8, 9, 10, 11, 12, 13, 14, 15, 16, 17, 18, 19, 20, 21, 22, 23, 24, 25, 26, 27] rfl rfl) (show ww x [(q0, .inr (8, [.ref q1, .ref q8, .ref q15, .ref q21, .ref q28])), (q1, .inr (2, [.ref q2, .ref q4, .ref q6])), (q2, .inr (7, [.ref q3, .int 0])), (q3, .inl (gJ (xg x), 60, .inr (.inl (fun _ => 0)))), (q4, .inr (7, [.ref q5, .int 0])), (q5, .inl (gJ (xg x), 60, .inr (.inl (fun _ => 0)))), (q6, .inr (3, [.ref q7])), (q7, .inl (gI (xg x), 32, .inl (fun _ => 0))), (q8, .inr (6, [.ref q9, .ref q11, .ref q12])), (q9, .inr (3, [.ref q10])), (q10, .inl (gI (xg x), 32, .inl (fun _ => 0))), (q11, .inl (gI (xg x), 32, .inl y13)), (q12, .inl (gI (xg x), 32, .inl y14)), (q15, .inr (1, [.ref q16, .ref q17, .ref q19, .int 0])), (q16, .inr (0, [.int 0, .ref (gM (xg x) 1), .int 0])), (q17, .inr (3, [.ref q18])), (q18, .inl (gI (xg x), 32, .inl (fun _ => 0))), (q19, .inr (3, [.ref q20])), (q20, .inl (gI (xg x), 32, .inl (fun _ => 0))), (q21, .inr (4, [.ref q22, .ref q24, .ref q26, .int 0, .int 0])), (q22, .inr (3, [.ref q23])), (q23, .inl (gI (xg x), 32, .inl (fun _ => 0))), (q24, .inr (7, [.ref q25, .int 0])), (q25, .inl (gJ (xg x), 60, .inr (.inl (fun _ => 0)))), (q26, .inr (7, [.ref q27, .int 0])), (q27, .inl (gJ (xg x), 60, .inr (.inl (fun _ => 0)))), (q28, .inr (3, [.ref q29])), (q29, .inl (gI (xg x), 32, .inl (fun _ => 0)))] [(0, .ref b)] 28 533 7 [.ref q0] from ?_)
  refine xw_astore_n hf (pc := 7) dL_law_7 [(1, .ref q0), (0, .ref b)] hn (by decide) rfl ?_
  refine xw_new hf (pc := 8) dL_law_8 (ci := 9) il_X9 rfl tyX9_ok ml_3 ml_4 ml_5 [.int 0, .null, .int 0, .null, .null, .null, .null, .null, .null, .null, .int 0, .int 0, .null, .int 0, .null, .null, .null, .null, .int 0] (fun j hj => by rcases (show j = 0 ∨ j = 1 ∨ j = 2 ∨ j = 3 ∨ j = 4 ∨ j = 5 ∨ j = 6 ∨ j = 7 ∨ j = 8 ∨ j = 9 ∨ j = 10 ∨ j = 11 ∨ j = 12 ∨ j = 13 ∨ j = 14 ∨ j = 15 ∨ j = 16 ∨ j = 17 ∨ j = 18 by omega) with rfl | rfl | rfl | rfl | rfl | rfl | rfl | rfl | rfl | rfl | rfl | rfl | rfl | rfl | rfl | rfl | rfl | rfl | rfl <;> rfl) (Nat.le_of_ble_eq_true rfl) (Nat.le_of_ble_eq_true rfl) (fun r0 => ?_)
  show ww x ([(q0, .inr (8, [.ref q1, .ref q8, .ref q15, .ref q21, .ref q28])), (q1, .inr (2, [.ref q2, .ref q4, .ref q6])), (q2, .inr (7, [.ref q3, .int 0])), (q3, .inl (gJ (xg x), 60, .inr (.inl (fun _ => 0)))), (q4, .inr (7, [.ref q5, .int 0])), (q5, .inl (gJ (xg x), 60, .inr (.inl (fun _ => 0)))), (q6, .inr (3, [.ref q7])), (q7, .inl (gI (xg x), 32, .inl (fun _ => 0))), (q8, .inr (6, [.ref q9, .ref q11, .ref q12])), (q9, .inr (3, [.ref q10])), (q10, .inl (gI (xg x), 32, .inl (fun _ => 0))), (q11, .inl (gI (xg x), 32, .inl y13)), (q12, .inl (gI (xg x), 32, .inl y14)), (q15, .inr (1, [.ref q16, .ref q17, .ref q19, .int 0])), (q16, .inr (0, [.int 0, .ref (gM (xg x) 1), .int 0])), (q17, .inr (3, [.ref q18])), (q18, .inl (gI (xg x), 32, .inl (fun _ => 0))), (q19, .inr (3, [.ref q20])), (q20, .inl (gI (xg x), 32, .inl (fun _ => 0))), (q21, .inr (4, [.ref q22, .ref q24, .ref q26, .int 0, .int 0])), (q22, .inr (3, [.ref q23])), (q23, .inl (gI (xg x), 32, .inl (fun _ => 0))), (q24, .inr (7, [.ref q25, .int 0])), (q25, .inl (gJ (xg x), 60, .inr (.inl (fun _ => 0)))), (q26, .inr (7, [.ref q27, .int 0])), (q27, .inl (gJ (xg x), 60, .inr (.inl (fun _ => 0)))), (q28, .inr (3, [.ref q29])), (q29, .inl (gI (xg x), 32, .inl (fun _ => 0)))] ++ [(r0, .inr (9, [.int 0, .null, .int 0, .null, .null, .null, .null, .null, .null, .null, .int 0, .int 0, .null, .int 0, .null, .null, .null, .null, .int 0]))]) [(1, .ref q0), (0, .ref b)] 29 552 11 [.ref r0]
  refine xw_dup hf (pc := 11) dL_law_11 rfl ?_
  refine xw_callI hf (pc := 12) (nA := 0) (Xr := [(q0, .inr (8, [.ref q1, .ref q8, .ref q15, .ref q21, .ref q28])), (q1, .inr (2, [.ref q2, .ref q4, .ref q6])), (q2, .inr (7, [.ref q3, .int 0])), (q3, .inl (gJ (xg x), 60, .inr (.inl (fun _ => 0)))), (q4, .inr (7, [.ref q5, .int 0])), (q5, .inl (gJ (xg x), 60, .inr (.inl (fun _ => 0)))), (q6, .inr (3, [.ref q7])), (q7, .inl (gI (xg x), 32, .inl (fun _ => 0))), (q8, .inr (6, [.ref q9, .ref q11, .ref q12])), (q9, .inr (3, [.ref q10])), (q10, .inl (gI (xg x), 32, .inl (fun _ => 0))), (q11, .inl (gI (xg x), 32, .inl y13)), (q12, .inl (gI (xg x), 32, .inl y14)), (q15, .inr (1, [.ref q16, .ref q17, .ref q19, .int 0])), (q16, .inr (0, [.int 0, .ref (gM (xg x) 1), .int 0])), (q17, .inr (3, [.ref q18])), (q18, .inl (gI (xg x), 32, .inl (fun _ => 0))), (q19, .inr (3, [.ref q20])), (q20, .inl (gI (xg x), 32, .inl (fun _ => 0))), (q21, .inr (4, [.ref q22, .ref q24, .ref q26, .int 0, .int 0])), (q22, .inr (3, [.ref q23])), (q23, .inl (gI (xg x), 32, .inl (fun _ => 0))), (q24, .inr (7, [.ref q25, .int 0])), (q25, .inl (gJ (xg x), 60, .inr (.inl (fun _ => 0)))), (q26, .inr (7, [.ref q27, .int 0])), (q27, .inl (gJ (xg x), 60, .inr (.inl (fun _ => 0)))), (q28, .inr (3, [.ref q29])), (q29, .inl (gI (xg x), 32, .inl (fun _ => 0)))]) (rest := [.ref r0]) (c_X9_init (xl x) (xg x) r0 (post := fun v => isB v pr0) (p_x9i (fun v a => a))) gL_law_X9_init (by rfl) ml_5 ml_9 ml_10 rfl (by rfl) (by decide +kernel) ⟨⟨(Nat.le_of_ble_eq_true rfl), (Nat.le_of_ble_eq_true rfl)⟩, (Nat.le_of_ble_eq_true rfl), (Nat.le_of_ble_eq_true rfl)⟩ (Nat.le_of_ble_eq_true rfl) (sb_of [28, 0, 1, 2, 3, 4, 5, 6, 7, 8, 9, 10, 11, 12, 13, 14, 15, 16, 17, 18, 19, 20, 21, 22, 23, 24, 25, 26, 27] rfl rfl) rfl dL_law_12 (fun v X1 hp => ?_)
  obtain ⟨r1, r2, r3, r4, r5, r6, r7, r8, r9, r10, r11, r12, r13, y15, rfl, rfl, hb15⟩ := hp
  refine xw_X (sb_of [14, 15, 16, 17, 18, 19, 20, 21, 22, 23, 24, 25, 26, 27, 28, 29, 30, 31, 32, 33, 34, 35, 36, 37, 38, 39, 40, 41, 0, 1, 2, 3, 4, 5, 6, 7, 8, 9, 10, 11, 12, 13] rfl rfl) (show ww x ([(q0, .inr (8, [.ref q1, .ref q8, .ref q15, .ref q21, .ref q28])), (q1, .inr (2, [.ref q2, .ref q4, .ref q6])), (q2, .inr (7, [.ref q3, .int 0])), (q3, .inl (gJ (xg x), 60, .inr (.inl (fun _ => 0)))), (q4, .inr (7, [.ref q5, .int 0])), (q5, .inl (gJ (xg x), 60, .inr (.inl (fun _ => 0)))), (q6, .inr (3, [.ref q7])), (q7, .inl (gI (xg x), 32, .inl (fun _ => 0))), (q8, .inr (6, [.ref q9, .ref q11, .ref q12])), (q9, .inr (3, [.ref q10])), (q10, .inl (gI (xg x), 32, .inl (fun _ => 0))), (q11, .inl (gI (xg x), 32, .inl y13)), (q12, .inl (gI (xg x), 32, .inl y14)), (q15, .inr (1, [.ref q16, .ref q17, .ref q19, .int 0])), (q16, .inr (0, [.int 0, .ref (gM (xg x) 1), .int 0])), (q17, .inr (3, [.ref q18])), (q18, .inl (gI (xg x), 32, .inl (fun _ => 0))), (q19, .inr (3, [.ref q20])), (q20, .inl (gI (xg x), 32, .inl (fun _ => 0))), (q21, .inr (4, [.ref q22, .ref q24, .ref q26, .int 0, .int 0])), (q22, .inr (3, [.ref q23])), (q23, .inl (gI (xg x), 32, .inl (fun _ => 0))), (q24, .inr (7, [.ref q25, .int 0])), (q25, .inl (gJ (xg x), 60, .inr (.inl (fun _ => 0)))), (q26, .inr (7, [.ref q27, .int 0])), (q27, .inl (gJ (xg x), 60, .inr (.inl (fun _ => 0)))), (q28, .inr (3, [.ref q29])), (q29, .inl (gI (xg x), 32, .inl (fun _ => 0)))] ++ W_X9_init (xg x) r0 r1 r2 r3 r4 r5 r9 r10 r11 r12 r13 0 0 0 0 0 0 (fun _ => 0) (fun _ => 0) y15 (fun _ => 0) (fun _ => 0) r6 64 (fun _ => 0) r7 64 (fun _ => 0) r8 64 (fun _ => 0) (fun _ => 0) (fun _ => 0) (fun _ => 0) (fun _ => 0) (fun _ => 0)) [(1, .ref q0), (0, .ref b)] 42 1041 15 [.ref r0] from ?_)
  refine xw_astore_n hf (pc := 15) dL_law_15 [(2, .ref r0), (1, .ref q0), (0, .ref b)] hn (by decide) rfl ?_
  refine xw_iconst hf (pc := 16) dL_law_16 (v := 1) (by decide) ?_
  refine xw_newa hf (pc := 17) dL_law_17 (N := 1) (a0 := (1, .inr (.inl (fun _ => 0)))) ml_6 rfl 1 rfl (fun _ => rfl) (by decide) (by decide) (by decide) (Nat.le_of_ble_eq_true rfl) (Nat.le_of_ble_eq_true rfl) (fun qo => ?_)
  refine xw_X (sb_of [0, 1, 2, 3, 4, 5, 6, 7, 8, 9, 10, 11, 12, 13, 15, 16, 17, 18, 19, 20, 21, 22, 23, 24, 25, 26, 27, 28, 29, 30, 31, 32, 33, 34, 35, 36, 37, 38, 39, 40, 41, 42, 14] rfl rfl) (show ww x (W_L_law (xg x) q0 q1 q2 q3 q4 q5 q6 q7 q8 q9 q10 q11 q12 q15 q17 q18 q19 q20 q21 q22 q23 q24 q25 q26 q27 q28 q29 r0 r1 r2 r3 r4 r5 r9 r10 r11 r12 r13 qo q16 b 0 (fun _ => 0) 0 (fun _ => 0) (fun _ => 0) (fun _ => 0) y13 y14 0 (fun _ => 0) (fun _ => 0) 0 0 (fun _ => 0) 0 (fun _ => 0) 0 (fun _ => 0) (fun _ => 0) 0 0 0 0 0 0 (fun _ => 0) (fun _ => 0) y15 (fun _ => 0) (fun _ => 0) r6 64 (fun _ => 0) r7 64 (fun _ => 0) r8 64 (fun _ => 0) (fun _ => 0) (fun _ => 0) (fun _ => 0) (fun _ => 0) (fun _ => 0) (fun _ => 0) L sx ++ ZP (xg x) q16 ((0, 0, 0, []) : ZL)) [(2, .ref r0), (1, .ref q0), (0, .ref b)] 43 1042 19 [.ref qo] from ?_)
  refine xw_astore_n hf (pc := 19) dL_law_19 [(3, .ref qo), (2, .ref r0), (1, .ref q0), (0, .ref b)] hn (by decide) rfl ?_
  refine xw_iconst hf (pc := 20) dL_law_20 (v := 0) (by decide) ?_
  refine xw_istore hf (pc := 21) dL_law_21 [(4, .int 0), (3, .ref qo), (2, .ref r0), (1, .ref q0), (0, .ref b)] hn (by decide) rfl ?_
  refine xw_L [4, 3, 2, 1, 0] rfl ?_
  have key := law_P hL (v7 := y14) (v47 := sx) ht14 512 (n := FU) (j := 0) (rc := 600000) (rs := 7200000) (S := []) (M := []) (u := fun _ => 0) (b := pr0) (R := []) (N := 64) (v45 := ((0, 0, 0, []) : ZL)) (v0 := 0) (v1 := (fun _ => 0)) (v2 := 0) (v3 := (fun _ => 0)) (v4 := (fun _ => 0)) (v5 := (fun _ => 0)) (v6 := y13) (v8 := 0) (v9 := (fun _ => 0)) (v10 := (fun _ => 0)) (v11 := 0) (v12 := 0) (v13 := (fun _ => 0)) (v14 := 0) (v15 := (fun _ => 0)) (v16 := 0) (v17 := (fun _ => 0)) (v18 := (fun _ => 0)) (v19 := 0) (v20 := 0) (v21 := 0) (v22 := 0) (v23 := 0) (v24 := 0) (v25 := (fun _ => 0)) (v26 := (fun _ => 0)) (v27 := y15) (v28 := (fun _ => 0)) (v29 := (fun _ => 0)) (v30 := r6) (v31 := 64) (v32 := (fun _ => 0)) (v33 := r7) (v34 := 64) (v35 := (fun _ => 0)) (v36 := r8) (v37 := 64) (v38 := (fun _ => 0)) (v39 := (fun _ => 0)) (v40 := (fun _ => 0)) (v41 := (fun _ => 0)) (v42 := (fun _ => 0)) (v43 := (fun _ => 0)) (v44 := (fun _ => 0)) rfl (FU_b _ (by omega)) ⟨row_0 _, row_0 _, ⟨⟨fun n h => absurd h List.not_mem_nil, List.Pairwise.nil⟩, List.Perm.refl _⟩⟩ ⟨isU_0, isU_0, fun l _ _ => Nat.zero_le _⟩ ⟨hb13, hb15⟩ ⟨rfl, fun l _ _ => rfl, fun l _ _ => rfl⟩ (row_0 _) ⟨rfl, ⟨Nat.le_refl _, by decide, Or.inl rfl⟩, ⟨fun r h => absurd h List.not_mem_nil, Nat.zero_le _⟩, ⟨Nat.zero_le _, by decide, by decide⟩, rfl, rfl, rfl, ⟨nI_0.symm, Nat.zero_le _, fun i r h => by simp at h⟩⟩ (inv_0 _ _ (by omega) (by omega))
  have e0 : nI (5 * 0) = 0 := nI_0
  rw [e0] at key
  refine w_L_law_L23 (mc := 0) (ms := 0) hf hn (k0 := 43) (n0 := 1042) (rc := 600000) (rs := 7200000) ⟨(Nat.le_of_ble_eq_true rfl), (Nat.le_of_ble_eq_true rfl)⟩ q0 q1 q2 q3 q4 q5 q6 q7 q8 q9 q10 q11 q12 q15 q17 q18 q19 q20 q21 q22 q23 q24 q25 q26 q27 q28 q29 r0 r1 r2 r3 r4 r5 r9 r10 r11 r12 r13 qo q16 b y14 L sx hst hX FU _ 0 (fun _ => 0) 0 (fun _ => 0) (fun _ => 0) (fun _ => 0) y13 0 (fun _ => 0) (fun _ => 0) 0 0 (fun _ => 0) 0 (fun _ => 0) 0 (fun _ => 0) (fun _ => 0) 0 0 0 0 0 0 (fun _ => 0) (fun _ => 0) y15 (fun _ => 0) (fun _ => 0) r6 64 (fun _ => 0) r7 64 (fun _ => 0) r8 64 (fun _ => 0) (fun _ => 0) (fun _ => 0) (fun _ => 0) (fun _ => 0) (fun _ => 0) (fun _ => 0) ((0, 0, 0, []) : ZL) key (fun k0 n0 rc rs hk _ _ _ _ _ _ _ _ _ _ _ _ _ _ _ _ _ _ _ _ _ _ _ _ _ _ _ _ _ _ _ _ _ _ _ _ _ _ _ _ _ _ _ _ _ _ => ?_)
  refine xw_iconst hf (pc := 2687) dL_law_2687 (v := 1) (by decide) ?_
  exact hend _ _ _ (Nat.le_trans (Nat.le_add_right _ _) hk.1) (Nat.le_trans (Nat.le_add_right _ _) hk.2)
theorem whole_start {p : Program} {e : Env} {s : State} {m : MethodId} {below : List Frame} {meth : Method} {c : Code} (l : Launch) (hflags : l.flags = flags0) {b L : Nat} {xs : Nat → Int32} (hL : L ≤ 2560) (C0 : lw_At p s m meth c b L xs) : W p l e room_1 s m #[Value.ref b] below meth c s.heap [] 0 0 (lw_Z below #[Value.ref b] s) (entryFrame m ([Value.ref b] : List Value).toArray 8) := by
  obtain ⟨hx, hb, hr, hml, hown, hts, hX, hbl, hlocks, hgv⟩ := C0
  obtain ⟨g, hK, ham⟩ := st_all hts hgv
  have hst : l.stackTraces = false := by
    show (!l.flags.contains noTraceFlag) = false
    rw [hflags]
    decide +kernel
  have hf : fx (p, l, e, room_1, s, m, #[Value.ref b], below, meth, c, g, (fun q : Nat => s.heap.size ≤ q), 8, lw_Z below #[Value.ref b] s) rm_L_law RL cL_law wsL_law := ⟨hx, hb, hml, hown, fun w hw => hts w (wsL_law_in w hw), hK, fun q h => h, ham, rfl⟩
  have hl := lv_entry ([.ref b]) (n := 8) (Nat.le_of_ble_eq_true rfl)
  rw [lg_entry_eq]
  generalize (lg_sl ([.ref b]) ++ List.replicate (8 - (lg_sl ([.ref b])).length) Slot.unset).toArray = ls at hl ⊢
  have hl : lv_has ls 8 [(0, .ref b)] := hl
  refine law_walk hf rfl hL hst ⟨hX, hbl, Nat.not_le.mpr hbl⟩ (fun X k n hk hn H locs ls hP hD hS hl => ?_) s.heap [] ls (fun k q h => by simp at h) ⟨fun i j p q h => by simp at h, fun k q h => by simp at h⟩ va_S.rf hl
  exact va_forget hS.2.2 (W.widen hk hn (lw_ret hx hb hr hlocks dL_law_2688))
