/-! the list of the library -/
theorem jw_Jx4a65c_size_8abf5_0 : (Cond.fieldLink RJx4a65c 48 "java/util/ArrayList" "size" "I") ∈ wsJx4a65c_size_8abf5 := (List.mem_cons_of_mem _ (List.mem_append_left _ (List.mem_of_getElem? (i := 0) rfl)))
theorem jw_Jx4a65c_elementData_915e3_1 : (Cond.fieldLink RJx4a65c 9 "java/util/ArrayList" "elementData" "[Ljava/lang/Object;") ∈ wsJx4a65c_elementData_915e3 := (List.mem_cons_of_mem _ (List.mem_append_left _ (List.mem_of_getElem? (i := 0) rfl)))
theorem jw_Jx4a65c_get_915e3_2 : (Cond.fieldLink RJx4a65c 48 "java/util/ArrayList" "size" "I") ∈ wsJx4a65c_get_915e3 := (List.mem_cons_of_mem _ (List.mem_append_left _ (List.mem_of_getElem? (i := 0) rfl)))
theorem jw_J8_newLength_cabcc_3 : (Cond.methodLink RJ8 194 Lib.Math.max.name) ∈ wsJ8_newLength_cabcc := (List.mem_cons_of_mem _ (List.mem_of_getElem? (i := 0) rfl))
theorem jw_J8_newLength_cabcc_4 : (Cond.static Lib.Math.max.name) ∈ wsJ8_newLength_cabcc := (List.mem_cons_of_mem _ (List.mem_of_getElem? (i := 1) rfl))
theorem jw_J8_newLength_cabcc_5 : (Cond.initialized "java/lang/Math") ∈ wsJ8_newLength_cabcc := (List.mem_cons_of_mem _ (List.mem_of_getElem? (i := 2) rfl))
theorem jw_J8_newLength_cabcc_6 : (Cond.code Lib.Math.max.name Lib.Math.max.code 2 (some .int)) ∈ wsJ8_newLength_cabcc := (List.mem_cons_of_mem _ (List.mem_of_getElem? (i := 3) rfl))
theorem jw_J8_newLength_cabcc_7 : (Cond.constant RJ8 200 (2147483639)) ∈ wsJ8_newLength_cabcc := (List.mem_cons_of_mem _ (List.mem_of_getElem? (i := 4) rfl))
theorem jw_J7_copyOf_6403c_8 : (Cond.classLink RJ7 110 "[Ljava/lang/Object;") ∈ wsJ7_copyOf_6403c := (List.mem_cons_of_mem _ (List.mem_of_getElem? (i := 0) rfl))
theorem jw_J7_copyOf_6403c_9 : (Cond.classLink RJ7 2 "java/lang/Object") ∈ wsJ7_copyOf_6403c := (List.mem_cons_of_mem _ (List.mem_of_getElem? (i := 1) rfl))
theorem jw_J7_copyOf_6403c_10 : (Cond.methodLink RJ7 304 Lib.Math.min.name) ∈ wsJ7_copyOf_6403c := (List.mem_cons_of_mem _ (List.mem_of_getElem? (i := 2) rfl))
theorem jw_J7_copyOf_6403c_11 : (Cond.static Lib.Math.min.name) ∈ wsJ7_copyOf_6403c := (List.mem_cons_of_mem _ (List.mem_of_getElem? (i := 3) rfl))
theorem jw_J7_copyOf_6403c_12 : (Cond.initialized "java/lang/Math") ∈ wsJ7_copyOf_6403c := (List.mem_cons_of_mem _ (List.mem_of_getElem? (i := 4) rfl))
theorem jw_J7_copyOf_6403c_13 : (Cond.code Lib.Math.min.name Lib.Math.min.code 2 (some .int)) ∈ wsJ7_copyOf_6403c := (List.mem_cons_of_mem _ (List.mem_of_getElem? (i := 5) rfl))
theorem jw_J7_copyOf_6403c_14 : (Cond.methodLink RJ7 150 arraycopyName) ∈ wsJ7_copyOf_6403c := (List.mem_cons_of_mem _ (List.mem_of_getElem? (i := 6) rfl))
theorem jw_J7_copyOf_6403c_15 : (Cond.native arraycopyName) ∈ wsJ7_copyOf_6403c := (List.mem_cons_of_mem _ (List.mem_of_getElem? (i := 7) rfl))
theorem jw_J7_copyOf_6403c_16 : (Cond.static arraycopyName) ∈ wsJ7_copyOf_6403c := (List.mem_cons_of_mem _ (List.mem_of_getElem? (i := 8) rfl))
theorem jw_J7_copyOf_6403c_17 : (Cond.initialized "java/lang/System") ∈ wsJ7_copyOf_6403c := (List.mem_cons_of_mem _ (List.mem_of_getElem? (i := 9) rfl))
theorem jw_J7_copyOf_1904c_18 : (Cond.methodLink RJ7 86 ⟨"java/lang/Object", "getClass", "()Ljava/lang/Class;"⟩) ∈ wsJ7_copyOf_1904c := (List.mem_cons_of_mem _ (List.mem_of_getElem? (i := 0) rfl))
theorem jw_J7_copyOf_1904c_19 : (Cond.selects "[Ljava/lang/Object;" ⟨"java/lang/Object", "getClass", "()Ljava/lang/Class;"⟩ ⟨"java/lang/Object", "getClass", "()Ljava/lang/Class;"⟩) ∈ wsJ7_copyOf_1904c := (List.mem_cons_of_mem _ (List.mem_of_getElem? (i := 1) rfl))
theorem jw_J7_copyOf_1904c_20 : (Cond.instanceMethod ⟨"java/lang/Object", "getClass", "()Ljava/lang/Class;"⟩) ∈ wsJ7_copyOf_1904c := (List.mem_cons_of_mem _ (List.mem_of_getElem? (i := 2) rfl))
theorem jw_J7_copyOf_1904c_21 : (Cond.native ⟨"java/lang/Object", "getClass", "()Ljava/lang/Class;"⟩) ∈ wsJ7_copyOf_1904c := (List.mem_cons_of_mem _ (List.mem_of_getElem? (i := 3) rfl))
theorem jw_Jx4a65c_grow_92f84_22 : (Cond.fieldLink RJx4a65c 9 "java/util/ArrayList" "elementData" "[Ljava/lang/Object;") ∈ wsJx4a65c_grow_92f84 := (List.mem_cons_of_mem _ (List.mem_append_left _ (List.mem_append_left _ (List.mem_of_getElem? (l := wsJx4a65c_grow_92f84_r1) (i := 0) rfl))))
theorem jw_Jx4a65c_grow_92f84_23 : (Cond.fieldLink RJx4a65c 39 "java/util/ArrayList" "DEFAULTCAPACITY_EMPTY_ELEMENTDATA" "[Ljava/lang/Object;") ∈ wsJx4a65c_grow_92f84 := (List.mem_cons_of_mem _ (List.mem_append_left _ (List.mem_append_left _ (List.mem_of_getElem? (l := wsJx4a65c_grow_92f84_r1) (i := 1) rfl))))
theorem jw_Jx4a65c_grow_92f84_24 : (Cond.methodLink RJx4a65c 79 Lib.Math.max.name) ∈ wsJx4a65c_grow_92f84 := (List.mem_cons_of_mem _ (List.mem_append_left _ (List.mem_append_left _ (List.mem_of_getElem? (l := wsJx4a65c_grow_92f84_r1) (i := 2) rfl))))
theorem jw_Jx4a65c_grow_92f84_25 : (Cond.static Lib.Math.max.name) ∈ wsJx4a65c_grow_92f84 := (List.mem_cons_of_mem _ (List.mem_append_left _ (List.mem_append_left _ (List.mem_of_getElem? (l := wsJx4a65c_grow_92f84_r1) (i := 3) rfl))))
theorem jw_Jx4a65c_grow_92f84_26 : (Cond.initialized "java/lang/Math") ∈ wsJx4a65c_grow_92f84 := (List.mem_cons_of_mem _ (List.mem_append_left _ (List.mem_append_left _ (List.mem_of_getElem? (l := wsJx4a65c_grow_92f84_r1) (i := 4) rfl))))
theorem jw_Jx4a65c_grow_92f84_27 : (Cond.code Lib.Math.max.name Lib.Math.max.code 2 (some .int)) ∈ wsJx4a65c_grow_92f84 := (List.mem_cons_of_mem _ (List.mem_append_left _ (List.mem_append_left _ (List.mem_of_getElem? (l := wsJx4a65c_grow_92f84_r1) (i := 5) rfl))))
theorem jw_Jx4a65c_grow_92f84_28 : (Cond.classLink RJx4a65c 7 "java/lang/Object") ∈ wsJx4a65c_grow_92f84 := (List.mem_cons_of_mem _ (List.mem_append_left _ (List.mem_append_left _ (List.mem_of_getElem? (l := wsJx4a65c_grow_92f84_r1) (i := 6) rfl))))
theorem jw_Jx4a65c_grow_d5877_29 : (Cond.fieldLink RJx4a65c 48 "java/util/ArrayList" "size" "I") ∈ wsJx4a65c_grow_d5877 := (List.mem_cons_of_mem _ (List.mem_append_left _ (List.mem_append_left _ (List.mem_of_getElem? (l := wsJx4a65c_grow_d5877_r1) (i := 0) rfl))))
theorem jw_Jx4a65c_add_72be8_30 : (Cond.fieldLink RJx4a65c 48 "java/util/ArrayList" "size" "I") ∈ wsJx4a65c_add_72be8 := (List.mem_cons_of_mem _ (List.mem_append_left _ (List.mem_append_left _ (List.mem_of_getElem? (l := wsJx4a65c_add_72be8_r1) (i := 0) rfl))))
theorem jw_Jx4a65c_add_9ea2d_31 : (Cond.sameField "java/util/ArrayList" "java/util/AbstractList" "modCount" "I") ∈ wsJx4a65c_add_9ea2d := (List.mem_cons_of_mem _ (List.mem_append_left _ (List.mem_append_left _ (List.mem_of_getElem? (l := wsJx4a65c_add_9ea2d_r1) (i := 1) rfl))))
theorem jw_Jx4a65c_add_9ea2d_32 : (Cond.fieldLink RJx4a65c 63 "java/util/ArrayList" "modCount" "I") ∈ wsJx4a65c_add_9ea2d := (List.mem_cons_of_mem _ (List.mem_append_left _ (List.mem_append_left _ (List.mem_of_getElem? (l := wsJx4a65c_add_9ea2d_r1) (i := 0) rfl))))
theorem jw_Jx4a65c_add_9ea2d_33 : (Cond.fieldLink RJx4a65c 9 "java/util/ArrayList" "elementData" "[Ljava/lang/Object;") ∈ wsJx4a65c_add_9ea2d := (List.mem_cons_of_mem _ (List.mem_append_left _ (List.mem_append_left _ (List.mem_of_getElem? (l := wsJx4a65c_add_9ea2d_r1) (i := 2) rfl))))
theorem jw_Jx4a65c_add_9ea2d_34 : (Cond.fieldLink RJx4a65c 48 "java/util/ArrayList" "size" "I") ∈ wsJx4a65c_add_9ea2d := (List.mem_cons_of_mem _ (List.mem_append_left _ (List.mem_append_left _ (List.mem_of_getElem? (l := wsJx4a65c_add_9ea2d_r1) (i := 3) rfl))))
theorem jw_Jxa1e45_init_da8c8_35 : (Cond.methodLink RJxa1e45 1 objectInit) ∈ wsJxa1e45_init_da8c8 := (List.mem_cons_of_mem _ (List.mem_of_getElem? (i := 0) rfl))
theorem jw_Jxa1e45_init_da8c8_36 : (Cond.instanceMethod objectInit) ∈ wsJxa1e45_init_da8c8 := (List.mem_cons_of_mem _ (List.mem_of_getElem? (i := 1) rfl))
theorem jw_Jxa1e45_init_da8c8_37 : (Cond.code objectInit ⟨#[0xb1]⟩ 1 none) ∈ wsJxa1e45_init_da8c8 := (List.mem_cons_of_mem _ (List.mem_of_getElem? (i := 2) rfl))
theorem jw_Jxc12de_init_da8c8_38 : (Cond.initialized RJxa1e45) ∈ wsJxc12de_init_da8c8 := (List.mem_cons_of_mem _ (List.mem_append_left _ (List.mem_of_getElem? (i := 3) rfl)))
theorem jw_Jxc12de_init_da8c8_39 : (Cond.methodLink RJxc12de 1 yJxa1e45_init_da8c8) ∈ wsJxc12de_init_da8c8 := (List.mem_cons_of_mem _ (List.mem_append_left _ (List.mem_of_getElem? (i := 1) rfl)))
theorem jw_Jxc12de_init_da8c8_40 : (Cond.instanceMethod yJxa1e45_init_da8c8) ∈ wsJxc12de_init_da8c8 := (List.mem_cons_of_mem _ (List.mem_append_left _ (List.mem_of_getElem? (i := 2) rfl)))
theorem jw_Jxc12de_init_da8c8_41 : (Cond.fieldLink RJxc12de 7 "java/util/AbstractList" "modCount" "I") ∈ wsJxc12de_init_da8c8 := (List.mem_cons_of_mem _ (List.mem_append_left _ (List.mem_of_getElem? (i := 0) rfl)))
theorem jw_Jx4a65c_init_da8c8_42 : (Cond.initialized RJxc12de) ∈ wsJx4a65c_init_da8c8 := (List.mem_cons_of_mem _ (List.mem_append_left _ (List.mem_of_getElem? (i := 4) rfl)))
theorem jw_Jx4a65c_init_da8c8_43 : (Cond.methodLink RJx4a65c 1 yJxc12de_init_da8c8) ∈ wsJx4a65c_init_da8c8 := (List.mem_cons_of_mem _ (List.mem_append_left _ (List.mem_of_getElem? (i := 2) rfl)))
theorem jw_Jx4a65c_init_da8c8_44 : (Cond.instanceMethod yJxc12de_init_da8c8) ∈ wsJx4a65c_init_da8c8 := (List.mem_cons_of_mem _ (List.mem_append_left _ (List.mem_of_getElem? (i := 3) rfl)))
theorem jw_Jx4a65c_init_da8c8_45 : (Cond.fieldLink RJx4a65c 39 "java/util/ArrayList" "DEFAULTCAPACITY_EMPTY_ELEMENTDATA" "[Ljava/lang/Object;") ∈ wsJx4a65c_init_da8c8 := (List.mem_cons_of_mem _ (List.mem_append_left _ (List.mem_of_getElem? (i := 0) rfl)))
theorem jw_Jx4a65c_init_da8c8_46 : (Cond.fieldLink RJx4a65c 9 "java/util/ArrayList" "elementData" "[Ljava/lang/Object;") ∈ wsJx4a65c_init_da8c8 := (List.mem_cons_of_mem _ (List.mem_append_left _ (List.mem_of_getElem? (i := 1) rfl)))
theorem jl_Jx4a65c_size_8abf5_Jx4a65c : ∀ w ∈ wsJx4a65c0, w ∈ wsJx4a65c_size_8abf5 := fun _ h => (List.mem_cons_of_mem _ (List.mem_append_right _ h))
theorem jl_Jx4a65c_elementData_915e3_Jx4a65c : ∀ w ∈ wsJx4a65c0, w ∈ wsJx4a65c_elementData_915e3 := fun _ h => (List.mem_cons_of_mem _ (List.mem_append_right _ h))
theorem jl_Jx4a65c_get_915e3_Jx4a65c : ∀ w ∈ wsJx4a65c0, w ∈ wsJx4a65c_get_915e3 := fun _ h => (List.mem_cons_of_mem _ (List.mem_append_right _ h))
theorem jl_Jx4a65c_grow_92f84_Jx4a65c : ∀ w ∈ wsJx4a65c0, w ∈ wsJx4a65c_grow_92f84 := fun _ h => (List.mem_cons_of_mem _ (List.mem_append_right _ h))
theorem jl_Jx4a65c_grow_d5877_Jx4a65c : ∀ w ∈ wsJx4a65c0, w ∈ wsJx4a65c_grow_d5877 := fun _ h => (List.mem_cons_of_mem _ (List.mem_append_right _ h))
theorem jl_Jx4a65c_add_72be8_Jx4a65c : ∀ w ∈ wsJx4a65c0, w ∈ wsJx4a65c_add_72be8 := fun _ h => (List.mem_cons_of_mem _ (List.mem_append_right _ h))
theorem jl_Jx4a65c_add_9ea2d_Jx4a65c : ∀ w ∈ wsJx4a65c0, w ∈ wsJx4a65c_add_9ea2d := fun _ h => (List.mem_cons_of_mem _ (List.mem_append_right _ h))
theorem jl_Jxc12de_init_da8c8_Jx4a65c : ∀ w ∈ wsJx4a65c0, w ∈ wsJxc12de_init_da8c8 := fun _ h => (List.mem_cons_of_mem _ (List.mem_append_right _ h))
theorem jl_Jx4a65c_init_da8c8_Jx4a65c : ∀ w ∈ wsJx4a65c0, w ∈ wsJx4a65c_init_da8c8 := fun _ h => (List.mem_cons_of_mem _ (List.mem_append_right _ h))
theorem sb_add {F Z C : va_W} : sb (C ++ (F ++ Z)) ((Z ++ C) ++ F) := sb_tr sb_z0 (sb_tr (sb_tail C sb_z0) (sb_swap Z F C))
abbrev rmJ (fr lo c s : Nat) : Room := { frames := fr, cells := c, slots := s, locals := lo }
def led (g : Gx) (z : ZL) : Nat := if z.2.1 = 0 then gM g 1 else z.1
theorem ZP_0 {g : Gx} {a : Nat} {z : ZL} (Y : va_W) : (ZP g a z ++ Y)[0]? = some (a, .inr (0, [.int z.2.2.1, .ref (led g z), .int (lsz z)])) := rfl
theorem ZP_00 {g : Gx} {a : Nat} {z : ZL} : (ZP g a z)[0]? = some (a, .inr (0, [.int z.2.2.1, .ref (led g z), .int (lsz z)])) := rfl
theorem ZP_1 {g : Gx} {a : Nat} {z : ZL} (h : ¬ z.2.1 = 0) (Y : va_W) : (ZP g a z ++ Y)[1]? = some (led g z, .inl (gO g, z.2.1, .inr (.inr (.inr (.inr (lrf z)))))) := by
  unfold ZP led lrow
  rw [if_neg h, if_neg h]
  rfl
theorem ZP_10 {g : Gx} {a : Nat} {z : ZL} (h : ¬ z.2.1 = 0) : (ZP g a z)[1]? = some (led g z, .inl (gO g, z.2.1, .inr (.inr (.inr (.inr (lrf z)))))) := by
  have := ZP_1 (g := g) (a := a) h []
  rwa [List.append_nil] at this
def lgo (i : Int32) (z : ZL) : Prop := vp_in i (lln z) ∧ lln z ≤ z.2.1
abbrev lgp (i : Int32) (z : ZL) : Prop := lgo i z ∧ lln z < 2 ^ 31
theorem vp_nlt {i : Int32} {n : Nat} (h : vp_in i n) : ¬ i < 0 := fun q => h (Or.inl q)
theorem c_lsize (l : Launch) (g : Gx) (a : Nat) (z : ZL) : cm l g yJx4a65c_size_8abf5 wsJx4a65c_size_8abf5 (rmJ 0 0 0 0) [.ref a] (ZP g a z) (fun v X1 => v = some (.int (lsz z)) ∧ X1 = ZP g a z) := by
  refine cm_of (cc := cJx4a65c_size_8abf5) (nL := 1) (ret := some .int) (by decide +kernel) rfl (Nat.le_of_ble_eq_true rfl) ?_
  intro x hf hl hg hn hi hr
  subst hl
  subst hg
  show ww x (ZP (xg x) a z) [(0, .ref a)] 0 0 0 []
  refine xw_aload_n hf (pc := 0) dJx4a65c_size_8abf5_0 rfl 0 rfl ?_
  refine xw_get hf (pc := 1) dJx4a65c_size_8abf5_1 (T := TJx4a65c) (ci := 0) jl_Jx4a65c_size_8abf5_Jx4a65c rfl 0 ZP_00 2 (by decide) rfl jw_Jx4a65c_size_8abf5_0 rfl ?_
  exact xw_iret hf (pc := 4) dJx4a65c_size_8abf5_4 hr (Nat.le_of_ble_eq_true rfl) (Nat.le_of_ble_eq_true rfl) ⟨rfl, rfl⟩
theorem c_ckI3 (l : Launch) (g : Gx) (i n : Int32) (f0 : Value) (h0 : ¬ i < 0) (h1 : i < n) : cm l g yJ3_checkIndex_8e157 wsJ3_checkIndex_8e157 (rmJ 0 0 0 0) [.int i, .int n, .null] [] (fun v X1 => v = some (.int i) ∧ X1 = []) := by
  refine cm_of (cc := cJ3_checkIndex_8e157) (nL := 3) (ret := some .int) (by decide +kernel) rfl (Nat.le_of_ble_eq_true rfl) ?_
  intro x hf hl hg hn hi hr
  subst hl
  subst hg
  show ww x [] [(0, .int i), (1, .int n), (2, .null)] 0 0 0 []
  refine xw_iload_n hf (pc := 0) dJ3_checkIndex_8e157_0 rfl 0 rfl ?_
  refine xw_if_lt hf (pc := 1) dJ3_checkIndex_8e157_1 Iff.rfl (tgt := 9) rfl ⟨fun c => absurd c h0, fun _ => ?_⟩
  refine xw_iload_n hf (pc := 4) dJ3_checkIndex_8e157_4 rfl 0 rfl ?_
  refine xw_iload_n hf (pc := 5) dJ3_checkIndex_8e157_5 rfl 1 rfl ?_
  refine xw_icmp_lt hf (pc := 6) dJ3_checkIndex_8e157_6 (tgt := 16) rfl ⟨fun _ => ?_, fun c => absurd h1 c⟩
  refine xw_iload_n hf (pc := 16) dJ3_checkIndex_8e157_16 rfl 0 rfl ?_
  exact xw_iret hf (pc := 17) dJ3_checkIndex_8e157_17 hr (Nat.le_of_ble_eq_true rfl) (Nat.le_of_ble_eq_true rfl) ⟨rfl, rfl⟩
theorem c_ckI (l : Launch) (g : Gx) (i n : Int32) (h0 : ¬ i < 0) (h1 : i < n) : cm l g yJ15_checkIndex_7cf53 wsJ15_checkIndex_7cf53 (rmJ 1 24 0 0) [.int i, .int n] [] (fun v X1 => v = some (.int i) ∧ X1 = []) := by
  refine cm_of (cc := cJ15_checkIndex_7cf53) (nL := 2) (ret := some .int) (by decide +kernel) rfl (Nat.le_of_ble_eq_true rfl) ?_
  intro x hf hl hg hn hi hr
  subst hl
  subst hg
  show ww x [] [(0, .int i), (1, .int n)] 0 0 0 []
  refine xw_iload_n hf (pc := 0) dJ15_checkIndex_7cf53_0 rfl 0 rfl ?_
  refine xw_iload_n hf (pc := 1) dJ15_checkIndex_7cf53_1 rfl 1 rfl ?_
  refine xw_null hf (pc := 2) dJ15_checkIndex_7cf53_2 ?_
  refine xw_callS hf (pc := 3) (nA := 3) (Xr := []) (rest := []) (c_ckI3 (xl x) (xg x) i n .null h0 h1) gJ15_checkIndex_7cf53_J3_checkIndex_8e157 (by rfl) rfl (by decide +kernel) ⟨⟨(Nat.le_of_ble_eq_true rfl), (Nat.le_of_ble_eq_true rfl)⟩, (Nat.le_of_ble_eq_true rfl), (Nat.le_of_ble_eq_true rfl)⟩ (Nat.le_of_ble_eq_true rfl) (sb_rf _) rfl dJ15_checkIndex_7cf53_3 (fun v X1 hp => ?_)
  obtain ⟨rfl, rfl⟩ := hp
  exact xw_iret hf (pc := 6) dJ15_checkIndex_7cf53_6 hr (Nat.le_of_ble_eq_true rfl) (Nat.le_of_ble_eq_true rfl) ⟨rfl, rfl⟩
theorem lrf_at {z : ZL} {i : Nat} (h : i < lln z) : lrf z i = some (lga z i) := by
  unfold lrf lga lrc
  have h' : i < (lrs z).length := h
  rw [List.getElem?_eq_getElem h']
  rfl
theorem c_ledat (l : Launch) (g : Gx) (a : Nat) (z : ZL) (i : Int32) (h : lgo i z) : cm l g yJx4a65c_elementData_915e3 wsJx4a65c_elementData_915e3 (rmJ 0 0 0 0) [.ref a, .int i] (ZP g a z) (fun v X1 => v = some (.ref (lga z i.toNatClampNeg)) ∧ X1 = ZP g a z) := by
  refine cm_of (cc := cJx4a65c_elementData_915e3) (nL := 2) (ret := some (.object "java/lang/Object")) (by decide +kernel) rfl (Nat.le_of_ble_eq_true rfl) ?_
  intro x hf hl hg hn hi hr
  subst hl
  subst hg
  have h1 := vp_lt h.1
  have h2 := h.2
  have h3 : ¬ z.2.1 = 0 := by omega
  show ww x (ZP (xg x) a z) [(0, .ref a), (1, .int i)] 0 0 0 []
  refine xw_aload_n hf (pc := 0) dJx4a65c_elementData_915e3_0 rfl 0 rfl ?_
  refine xw_get hf (pc := 1) dJx4a65c_elementData_915e3_1 (T := TJx4a65c) (ci := 0) jl_Jx4a65c_elementData_915e3_Jx4a65c rfl 0 ZP_00 1 (by decide) rfl jw_Jx4a65c_elementData_915e3_1 rfl ?_
  refine xw_iload_n hf (pc := 4) dJx4a65c_elementData_915e3_4 rfl 1 rfl ?_
  refine xw_oald hf (pc := 5) dJx4a65c_elementData_915e3_5 1 (ZP_10 h3) (fun q => q.elim (vp_nlt h.1) (fun q => by omega)) ?_
  rw [lrf_at h1]
  exact xw_aret hf (pc := 6) dJx4a65c_elementData_915e3_6 hr (Or.inl ⟨_, rfl⟩) (Nat.le_of_ble_eq_true rfl) (Nat.le_of_ble_eq_true rfl) ⟨rfl, rfl⟩
theorem nI_lt' {i : Int32} {n : Nat} (h : vp_in i n) (hn : n < 2 ^ 31) : i < nI n := by
  have h0 := vp_nlt h
  have h1 := vp_lt h
  have e : (0 : Int) ≤ i.toInt := by
    have := Int32.not_lt.mp h0
    simpa using Int32.le_iff_toInt_le.mp this
  rw [Int32.lt_iff_toInt_lt, nI_toInt hn]
  have : i.toNatClampNeg = i.toInt.toNat := rfl
  omega
theorem c_lget (l : Launch) (g : Gx) (a : Nat) (z : ZL) (i : Int32) (h : lgo i z ∧ lln z < 2 ^ 31) : cm l g yJx4a65c_get_915e3 wsJx4a65c_get_915e3 (rmJ 4 120 0 0) [.ref a, .int i] (ZP g a z) (fun v X1 => v = some (.ref (lga z i.toNatClampNeg)) ∧ X1 = ZP g a z) := by
  refine cm_of (cc := cJx4a65c_get_915e3) (nL := 2) (ret := some (.object "java/lang/Object")) (by decide +kernel) rfl (Nat.le_of_ble_eq_true rfl) ?_
  intro x hf hl hg hn hi hr
  subst hl
  subst hg
  show ww x (ZP (xg x) a z) [(0, .ref a), (1, .int i)] 0 0 0 []
  refine xw_iload_n hf (pc := 0) dJx4a65c_get_915e3_0 rfl 1 rfl ?_
  refine xw_aload_n hf (pc := 1) dJx4a65c_get_915e3_1 rfl 0 rfl ?_
  refine xw_get hf (pc := 2) dJx4a65c_get_915e3_2 (T := TJx4a65c) (ci := 0) jl_Jx4a65c_get_915e3_Jx4a65c rfl 0 ZP_00 2 (by decide) rfl jw_Jx4a65c_get_915e3_2 rfl ?_
  refine xw_callS hf (pc := 5) (nA := 2) (Xr := ZP (xg x) a z) (rest := []) (c_ckI (xl x) (xg x) i (lsz z) (vp_nlt h.1.1) (nI_lt' h.1.1 h.2)) gJx4a65c_get_915e3_J15_checkIndex_7cf53 (by rfl) rfl (by decide +kernel) ⟨⟨(Nat.le_of_ble_eq_true rfl), (Nat.le_of_ble_eq_true rfl)⟩, (Nat.le_of_ble_eq_true rfl), (Nat.le_of_ble_eq_true rfl)⟩ (Nat.le_of_ble_eq_true rfl) (sb_rf _) rfl dJx4a65c_get_915e3_5 (fun v X1 hp => ?_)
  obtain ⟨rfl, rfl⟩ := hp
  show ww x (ZP (xg x) a z) [(0, .ref a), (1, .int i)] 0 0 8 [.int i]
  refine xw_pop hf (pc := 8) dJx4a65c_get_915e3_8 rfl ?_
  refine xw_aload_n hf (pc := 9) dJx4a65c_get_915e3_9 rfl 0 rfl ?_
  refine xw_iload_n hf (pc := 10) dJx4a65c_get_915e3_10 rfl 1 rfl ?_
  refine xw_callV hf (pc := 11) (nA := 1) (Xr := []) (rest := []) (ci := 0) (T := TJx4a65c) (c_ledat (xl x) (xg x) a z i h.1) gJx4a65c_get_915e3_Jx4a65c_elementData_915e3 (by rfl) rfl rfl (by decide +kernel) ⟨⟨(Nat.le_of_ble_eq_true rfl), (Nat.le_of_ble_eq_true rfl)⟩, (Nat.le_of_ble_eq_true rfl), (Nat.le_of_ble_eq_true rfl)⟩ (Nat.le_of_ble_eq_true rfl) rfl (ZP_0 []) (by rw [List.append_nil]; exact sb_rf _) rfl dJx4a65c_get_915e3_11 (fun v X1 hp => ?_)
  obtain ⟨rfl, rfl⟩ := hp
  rw [List.append_nil]
  exact xw_aret hf (pc := 14) dJx4a65c_get_915e3_14 hr (Or.inl ⟨_, rfl⟩) (Nat.le_of_ble_eq_true rfl) (Nat.le_of_ble_eq_true rfl) ⟨rfl, rfl⟩
/-! growing -/
theorem lrf_none {z : ZL} {i : Nat} (h : lln z ≤ i) : lrf z i = none := by
  unfold lrf
  have h' : (lrs z).length ≤ i := h
  rw [List.getElem?_eq_none h']
  rfl
theorem c_newLen (l : Launch) (g : Gx) (n : Nat) (h : 10 ≤ n ∧ n ≤ 40000) : cm l g yJ8_newLength_cabcc wsJ8_newLength_cabcc (rmJ 1 40 0 0) [.int (nI n), .int (nI (n + 1) - nI n), .int (nI n >>> (1 &&& 31))] [] (fun v X1 => v = some (.int (nI (n + n / 2))) ∧ X1 = []) := by
  have e1 : nI (n + 1) - nI n = 1 := by rw [nI_succ, Int32.add_comm, Int32.add_sub_cancel]
  have e2 : nI n >>> ((1 : Int32) &&& 31) = nI (n / 2) := pk_shrN (by omega) ((1 : Int32) &&& 31) 1 (by decide)
  rw [e1, e2]
  refine cm_of (cc := cJ8_newLength_cabcc) (nL := 4) (ret := some .int) (by decide +kernel) rfl (Nat.le_of_ble_eq_true rfl) ?_
  intro x hf hl hg hn hi hr
  subst hl
  subst hg
  show ww x [] [(0, .int (nI n)), (1, .int 1), (2, .int (nI (n / 2)))] 0 0 0 []
  refine xw_iload_n hf (pc := 0) dJ8_newLength_cabcc_0 rfl 0 rfl ?_
  refine xw_iload_n hf (pc := 1) dJ8_newLength_cabcc_1 rfl 1 rfl ?_
  refine xw_iload_n hf (pc := 2) dJ8_newLength_cabcc_2 rfl 2 rfl ?_
  refine xw_max hf jw_J8_newLength_cabcc_3 jw_J8_newLength_cabcc_4 jw_J8_newLength_cabcc_5 jw_J8_newLength_cabcc_6 ⟨⟨(Nat.le_of_ble_eq_true rfl), (Nat.le_of_ble_eq_true rfl)⟩, (Nat.le_of_ble_eq_true rfl), (Nat.le_of_ble_eq_true rfl)⟩ (Nat.le_of_ble_eq_true rfl) dJ8_newLength_cabcc_3 ?_
  have e3 : (if (1 : Int32) < nI (n / 2) then nI (n / 2) else 1) = nI (n / 2) := if_pos (nI_lt (a := 1) (by omega) (by omega))
  rw [e3]
  refine xw_iadd hf (pc := 6) dJ8_newLength_cabcc_6 ?_
  have e4 : nI n + nI (n / 2) = nI (n + n / 2) := by
    unfold nI
    exact (Int32.ofNat_add n (n / 2)).symm
  rw [e4]
  refine xw_istore_n hf (pc := 7) dJ8_newLength_cabcc_7 rfl [(3, .int (nI (n + n / 2))), (0, .int (nI n)), (1, .int 1), (2, .int (nI (n / 2)))] hn (by decide) rfl ?_
  refine xw_iconst hf (pc := 8) dJ8_newLength_cabcc_8 (v := 0) (by decide) ?_
  refine xw_iload_n hf (pc := 9) dJ8_newLength_cabcc_9 rfl 0 rfl ?_
  refine xw_icmp_ge hf (pc := 10) dJ8_newLength_cabcc_10 (tgt := 21) rfl ⟨fun c => absurd c (nI_ge (a := 0) (by omega) (by omega)), fun _ => ?_⟩
  refine xw_iload_n hf (pc := 13) dJ8_newLength_cabcc_13 rfl 0 rfl ?_
  refine xw_ldc hf (pc := 14) dJ8_newLength_cabcc_14 jw_J8_newLength_cabcc_7 ?_
  refine xw_icmp_gt hf (pc := 16) dJ8_newLength_cabcc_16 (tgt := 21) rfl ⟨fun c => absurd c (nI_nlt (a := 2147483639) (by omega) (by omega)), fun _ => ?_⟩
  refine xw_iload_n hf (pc := 19) dJ8_newLength_cabcc_19 rfl 0 rfl ?_
  exact xw_iret hf (pc := 20) dJ8_newLength_cabcc_20 hr (Nat.le_of_ble_eq_true rfl) (Nat.le_of_ble_eq_true rfl) ⟨rfl, rfl⟩
def lcp (z : ZL) (n : Nat) : Nat → Option Nat := va_cpy (lrf z) (fun _ => none) (0 : Int32).toNatClampNeg (0 : Int32).toNatClampNeg (nI n).toNatClampNeg
theorem lcp_eq {z : ZL} {n : Nat} (h : lln z ≤ n) (hn : n < 2 ^ 31) : lcp z n = lrf z := by
  funext k
  unfold lcp va_cpy
  rw [nI_clamp hn, sb_cl0]
  by_cases hk : 0 ≤ k ∧ k < 0 + n
  · rw [if_pos hk, show 0 + (k - 0) = k by omega]
  · rw [if_neg hk, lrf_none (by omega)]
theorem c_copyOf3 (l : Launch) (g : Gx) (a : Nat) (z : ZL) (N : Nat) (h : ¬ z.2.1 = 0) (h1 : z.2.1 ≤ N) (h2 : N ≤ 80000) : cm l g yJ7_copyOf_6403c wsJ7_copyOf_6403c (rmJ 2 120 1 N) [.ref (led g z), .int (nI N), .ref (gM g 0)] (ZP g a z) (fun v X1 => ∃ q : Nat, v = some (.ref q) ∧ X1 = ZP g a z ++ [(q, .inl (gO g, N, .inr (.inr (.inr (.inr (lcp z z.2.1))))))]) := by
  refine cm_of (cc := cJ7_copyOf_6403c) (nL := 4) (ret := some (.array (.object "java/lang/Object"))) (by decide +kernel) rfl (Nat.le_of_ble_eq_true rfl) ?_
  intro x hf hl hg hn hi hr
  subst hl
  subst hg
  show ww x (ZP (xg x) a z) [(0, .ref (led (xg x) z)), (1, .int (nI N)), (2, .ref (gM (xg x) 0))] 0 0 0 []
  refine xw_aload_n hf (pc := 0) dJ7_copyOf_6403c_0 rfl 2 rfl ?_
  refine xw_ldcM hf (pc := 1) jw_J7_copyOf_6403c_8 dJ7_copyOf_6403c_1 ?_
  refine xw_acmp_ne hf (pc := 3) dJ7_copyOf_6403c_3 (tgt := 13) rfl ⟨fun c => absurd rfl c, fun _ => ?_⟩
  refine xw_iload_n hf (pc := 6) dJ7_copyOf_6403c_6 rfl 1 rfl ?_
  refine xw_newo hf (N := N) jw_J7_copyOf_6403c_9 (nI_pos (by omega)) (nI_clamp (by omega)) (by omega) (Nat.le_of_eq (Nat.zero_add 1)) (Nat.le_of_eq (Nat.zero_add N)) dJ7_copyOf_6403c_7 (fun q => ?_)
  refine xw_goto hf (pc := 10) dJ7_copyOf_6403c_10 (tgt := 24) rfl ?_
  refine xw_astore_n hf (pc := 24) dJ7_copyOf_6403c_24 rfl [(3, .ref q), (0, .ref (led (xg x) z)), (1, .int (nI N)), (2, .ref (gM (xg x) 0))] hn (by decide) rfl ?_
  refine xw_aload_n hf (pc := 25) dJ7_copyOf_6403c_25 rfl 1 rfl ?_
  refine xw_iconst hf (pc := 26) dJ7_copyOf_6403c_26 (v := 0) (by decide) ?_
  refine xw_aload_n hf (pc := 27) dJ7_copyOf_6403c_27 rfl 0 rfl ?_
  refine xw_iconst hf (pc := 28) dJ7_copyOf_6403c_28 (v := 0) (by decide) ?_
  refine xw_aload_n hf (pc := 29) dJ7_copyOf_6403c_29 rfl 1 rfl ?_
  refine xw_alen hf dJ7_copyOf_6403c_30 1 3 (ZP_1 h _) rfl rfl ?_
  refine xw_iload_n hf (pc := 31) dJ7_copyOf_6403c_31 rfl 2 rfl ?_
  refine xw_min hf jw_J7_copyOf_6403c_10 jw_J7_copyOf_6403c_11 jw_J7_copyOf_6403c_12 jw_J7_copyOf_6403c_13 ⟨⟨(Nat.le_of_ble_eq_true rfl), (Nat.le_of_ble_eq_true rfl)⟩, Nat.le_of_eq (Nat.zero_add 1), Nat.le_of_eq (Nat.zero_add N)⟩ (Nat.le_of_ble_eq_true rfl) dJ7_copyOf_6403c_32 ?_
  have e : (if nI N < Int32.ofNat z.2.1 then nI N else Int32.ofNat z.2.1) = nI z.2.1 := if_neg (nI_nlt (a := N) (b := z.2.1) h1 (by omega))
  rw [e]
  have c1 : (nI z.2.1).toNatClampNeg = z.2.1 := nI_clamp (by omega)
  have hlen : (ZP (xg x) a z)[(ZP (xg x) a z).length]? = none := List.getElem?_eq_none (Nat.le_refl _)
  have hq : (ZP (xg x) a z ++ [(q, Sum.inl (gO (xg x), N, Sum.inr (Sum.inr (Sum.inr (Sum.inr (fun _ => (none : Option Nat)))))))])[(ZP (xg x) a z).length]? = some (q, .inl (gO (xg x), N, .inr (.inr (.inr (.inr (fun _ => none)))))) := by
    rw [List.getElem?_append_right (Nat.le_refl _), Nat.sub_self]
    rfl
  refine xw_copyo hf 1 (ZP (xg x) a z).length (ZP_1 h _) hq jw_J7_copyOf_6403c_14 jw_J7_copyOf_6403c_15 jw_J7_copyOf_6403c_16 jw_J7_copyOf_6403c_17 (by decide) (by decide) (nI_pos (by omega)) (by rw [c1, sb_cl0]; omega) (by rw [c1, sb_cl0]; omega) ?_ ⟨(Nat.le_of_ble_eq_true rfl), (Nat.le_of_ble_eq_true rfl)⟩ (Nat.le_of_ble_eq_true rfl) dJ7_copyOf_6403c_35 (ZP (xg x) a z ++ [(q, .inl (gO (xg x), N, .inr (.inr (.inr (.inr (lcp z z.2.1))))))]) ?_ ?_
  · intro i hi y hy
    rw [sb_cl0, Nat.zero_add] at hy
    by_cases hil : i < lln z
    · rw [lrf_at hil] at hy
      have ey := Option.some.inj hy
      subst ey
      refine ⟨lix (xg x) [] z i, [.long (lwd z i), .int (lpr z i), .int (lrt z i)], ?_⟩
      have := ZP_at (g := xg x) (a := a) [] hil
      rw [List.nil_append] at this
      rw [List.getElem?_append_left (List.getElem?_eq_some_iff.mp this).1]
      exact this
    · rw [lrf_none (by omega)] at hy
      cases hy
  · rw [List.set_append_right _ _ (Nat.le_refl _), Nat.sub_self]
    rfl
  refine xw_aload_n hf (pc := 38) dJ7_copyOf_6403c_38 rfl 0 rfl ?_
  exact xw_aret hf (pc := 39) dJ7_copyOf_6403c_39 hr (Or.inr ⟨_, rfl⟩) (Nat.le_of_eq (Nat.zero_add 1)) (Nat.le_of_eq (Nat.zero_add N)) ⟨q, rfl, rfl⟩

theorem c_copyOf2 (l : Launch) (g : Gx) (a : Nat) (z : ZL) (N : Nat) (h : ¬ z.2.1 = 0) (h1 : z.2.1 ≤ N) (h2 : N ≤ 80000) : cm l g yJ7_copyOf_1904c wsJ7_copyOf_1904c (rmJ 3 160 1 N) [.ref (led g z), .int (nI N)] (ZP g a z) (fun v X1 => ∃ q : Nat, v = some (.ref q) ∧ X1 = ZP g a z ++ [(q, .inl (gO g, N, .inr (.inr (.inr (.inr (lcp z z.2.1))))))]) := by
  refine cm_of (cc := cJ7_copyOf_1904c) (nL := 2) (ret := some (.array (.object "java/lang/Object"))) (by decide +kernel) rfl (Nat.le_of_ble_eq_true rfl) ?_
  intro x hf hl hg hn hi hr
  subst hl
  subst hg
  show ww x (ZP (xg x) a z) [(0, .ref (led (xg x) z)), (1, .int (nI N))] 0 0 0 []
  refine xw_aload_n hf (pc := 0) dJ7_copyOf_1904c_0 rfl 0 rfl ?_
  refine xw_iload_n hf (pc := 1) dJ7_copyOf_1904c_1 rfl 1 rfl ?_
  refine xw_aload_n hf (pc := 2) dJ7_copyOf_1904c_2 rfl 0 rfl ?_
  refine xw_getC hf 1 (ZP_10 h) jw_J7_copyOf_1904c_18 jw_J7_copyOf_1904c_19 jw_J7_copyOf_1904c_20 jw_J7_copyOf_1904c_21 ⟨(Nat.le_of_ble_eq_true rfl), (Nat.le_of_ble_eq_true rfl)⟩ (Nat.le_of_ble_eq_true rfl) dJ7_copyOf_1904c_3 ?_
  refine xw_callS hf (pc := 6) (nA := 3) (Xr := []) (rest := []) (c_copyOf3 (xl x) (xg x) a z N h h1 h2) gJ7_copyOf_1904c_J7_copyOf_6403c (by rfl) rfl (by decide +kernel) ⟨⟨(Nat.le_of_ble_eq_true rfl), (Nat.le_of_ble_eq_true rfl)⟩, Nat.le_of_eq (Nat.zero_add 1), Nat.le_of_eq (Nat.zero_add N)⟩ (Nat.le_of_ble_eq_true rfl) (by rw [List.append_nil]; exact sb_rf _) rfl dJ7_copyOf_1904c_6 (fun v X1 hp => ?_)
  obtain ⟨q, rfl, rfl⟩ := hp
  rw [List.append_nil]
  exact xw_aret hf (pc := 9) dJ7_copyOf_1904c_9 hr (Or.inr ⟨_, rfl⟩) (Nat.le_of_eq (Nat.zero_add 1)) (Nat.le_of_eq (Nat.zero_add N)) ⟨q, rfl, rfl⟩
/-- a list whose row is another, of the room n -/
def lrow2 (z : ZL) (q n : Nat) : ZL := (q, n, z.2.2.1, z.2.2.2)
theorem sb_grow (g : Gx) (a : Nat) (z : ZL) (q n : Nat) (f : Nat → Option Nat) (hn : ¬ n = 0) (hf : f = lrf z) (cell : Nat × va_E) (hc : cell = (a, .inr (0, [.int z.2.2.1, .ref q, .int (lsz z)]))) :
    sb ((ZP g a z).set 0 cell ++ [(q, .inl (gO g, n, .inr (.inr (.inr (.inr f)))))]) (ZP g a (lrow2 z q n)) := by
  subst hf
  have e : ZP g a (lrow2 z q n) = [cell, (q, .inl (gO g, n, .inr (.inr (.inr (.inr (lrf z))))))] ++ (lrs z).map lcell := by
    rw [hc]
    unfold ZP lrow
    show ((_ :: (if n = 0 then _ else _)) ++ _ : va_W) = _
    rw [if_neg hn]
    show ((a, Sum.inr (0, [Value.int z.2.2.1, Value.ref (if n = 0 then gM g 1 else q), Value.int (lsz z)])) :: _ : va_W) = _
    rw [if_neg hn]
    rfl
  rw [e]
  have e2 : (ZP g a z).set 0 cell = (cell :: lrow g z) ++ (lrs z).map lcell := rfl
  rw [e2]
  refine sb_tr (sb_swap (cell :: lrow g z) ((lrs z).map lcell) _) (sb_tail _ ?_)
  by_cases h0 : z.2.1 = 0
  · unfold lrow
    rw [if_pos h0]
    exact sb_rf _
  · unfold lrow
    rw [if_neg h0]
    exact sb_of [0, 2] rfl rfl
theorem c_growI (l : Launch) (g : Gx) (a : Nat) (z : ZL) (h : lok z) (hf0 : lln z = z.2.1) : cm l g yJx4a65c_grow_92f84 wsJx4a65c_grow_92f84 (rmJ 4 200 1 (lgrow z.2.1)) [.ref a, .int (nI (lln z + 1))] (ZP g a z) (fun v X1 => ∃ q : Nat, v = some (.ref q) ∧ X1 = ZP g a (lrow2 z q (lgrow z.2.1))) := by
  refine cm_of (cc := cJx4a65c_grow_92f84) (nL := 4) (ret := some (.array (.object "java/lang/Object"))) (by decide +kernel) rfl (Nat.le_of_ble_eq_true rfl) ?_
  intro x hf hl hg hn hi hr
  subst hl
  subst hg
  have hcap := h.2.1
  have h10 := h.2.2
  rw [hf0]
  show ww x (ZP (xg x) a z) [(0, .ref a), (1, .int (nI (z.2.1 + 1)))] 0 0 0 []
  refine xw_aload_n hf (pc := 0) dJx4a65c_grow_92f84_0 rfl 0 rfl ?_
  refine xw_get hf (pc := 1) dJx4a65c_grow_92f84_1 (T := TJx4a65c) (ci := 0) jl_Jx4a65c_grow_92f84_Jx4a65c rfl 0 ZP_00 1 (by decide) rfl jw_Jx4a65c_grow_92f84_22 rfl ?_
  by_cases h0 : z.2.1 = 0
  · have el : led (xg x) z = gM (xg x) 1 := if_pos h0
    have eg : lgrow z.2.1 = 10 := by rw [h0]; rfl
    rw [eg] at hr hf
    rw [el]
    refine xw_tlen0 hf dJx4a65c_grow_92f84_4 ?_
    refine xw_istore_n hf (pc := 5) dJx4a65c_grow_92f84_5 rfl [(2, .int 0), (0, .ref a), (1, .int (nI (z.2.1 + 1)))] hn (by decide) rfl ?_
    refine xw_iload_n hf (pc := 6) dJx4a65c_grow_92f84_6 rfl 0 rfl ?_
    refine xw_if_gt hf (pc := 7) dJx4a65c_grow_92f84_7 Iff.rfl (tgt := 20) rfl ⟨fun c => absurd c (by decide), fun _ => ?_⟩
    refine xw_aload_n hf (pc := 10) dJx4a65c_grow_92f84_10 rfl 1 rfl ?_
    refine xw_get hf (pc := 11) dJx4a65c_grow_92f84_11 (T := TJx4a65c) (ci := 0) jl_Jx4a65c_grow_92f84_Jx4a65c rfl 0 ZP_00 1 (by decide) rfl jw_Jx4a65c_grow_92f84_22 rfl ?_
    rw [el]
    refine xw_gets hf (pc := 14) (fah hf).2.2.2.1 jw_Jx4a65c_grow_92f84_23 dJx4a65c_grow_92f84_14 ?_
    refine xw_acmp_eq hf (pc := 17) dJx4a65c_grow_92f84_17 (tgt := 45) rfl ⟨fun _ => ?_, fun c => absurd rfl c⟩
    refine xw_aload_n hf (pc := 45) dJx4a65c_grow_92f84_45 rfl 1 rfl ?_
    refine xw_bipush hf (pc := 46) dJx4a65c_grow_92f84_46 (v := 10) (by decide) ?_
    refine xw_iload_n hf (pc := 48) dJx4a65c_grow_92f84_48 rfl 2 rfl ?_
    refine xw_max hf jw_Jx4a65c_grow_92f84_24 jw_Jx4a65c_grow_92f84_25 jw_Jx4a65c_grow_92f84_26 jw_Jx4a65c_grow_92f84_27 ⟨⟨(Nat.le_of_ble_eq_true rfl), (Nat.le_of_ble_eq_true rfl)⟩, Nat.zero_le _, Nat.zero_le _⟩ (Nat.le_of_ble_eq_true rfl) dJx4a65c_grow_92f84_49 ?_
    have e : (if (10 : Int32) < nI (z.2.1 + 1) then nI (z.2.1 + 1) else 10) = 10 := by rw [h0]; decide
    rw [e]
    refine xw_newo hf (N := 10) jw_Jx4a65c_grow_92f84_28 (by decide) (by decide) (by decide) (Nat.le_of_eq (Nat.zero_add 1)) (Nat.le_of_eq (Nat.zero_add 10)) dJx4a65c_grow_92f84_52 (fun q => ?_)
    refine xw_dup_x1 hf (pc := 55) dJx4a65c_grow_92f84_55 rfl rfl ?_
    refine xw_put hf (pc := 56) dJx4a65c_grow_92f84_56 (T := TJx4a65c) (ci := 0) jl_Jx4a65c_grow_92f84_Jx4a65c rfl tyJx4a65c_ok nmJx4a65c 0 (ZP_0 _) 1 (by decide) rfl jw_Jx4a65c_grow_92f84_22 rfl rfl rfl rfl (Nat.le_of_ble_eq_true rfl) _ rfl ?_
    refine xw_X (sb_grow (xg x) a z q 10 (fun _ => none) (by decide) (by funext k; exact (lrf_none (by omega)).symm) _ rfl) ?_
    exact xw_aret hf (pc := 59) dJx4a65c_grow_92f84_59 hr (Or.inr ⟨_, rfl⟩) (Nat.le_of_eq (Nat.zero_add 1)) (Nat.le_of_eq (Nat.zero_add 10)) ⟨q, rfl, rfl⟩
  · have h10' : 10 ≤ z.2.1 := h10.resolve_left h0
    have eg : lgrow z.2.1 = z.2.1 + z.2.1 / 2 := if_neg h0
    rw [eg] at hr hf
    refine xw_alen hf dJx4a65c_grow_92f84_4 1 3 (ZP_10 h0) rfl (v := nI z.2.1) rfl ?_
    refine xw_istore_n hf (pc := 5) dJx4a65c_grow_92f84_5 rfl [(2, .int (nI z.2.1)), (0, .ref a), (1, .int (nI (z.2.1 + 1)))] hn (by decide) rfl ?_
    refine xw_iload_n hf (pc := 6) dJx4a65c_grow_92f84_6 rfl 0 rfl ?_
    refine xw_if_gt hf (pc := 7) dJx4a65c_grow_92f84_7 Iff.rfl (tgt := 20) rfl ⟨fun _ => ?_, fun c => absurd (nI_lt (a := 0) (by omega) (by omega)) c⟩
    refine xw_iload_n hf (pc := 20) dJx4a65c_grow_92f84_20 rfl 0 rfl ?_
    refine xw_iload_n hf (pc := 21) dJx4a65c_grow_92f84_21 rfl 2 rfl ?_
    refine xw_iload_n hf (pc := 22) dJx4a65c_grow_92f84_22 rfl 0 rfl ?_
    refine xw_isub hf (pc := 23) dJx4a65c_grow_92f84_23 ?_
    refine xw_iload_n hf (pc := 24) dJx4a65c_grow_92f84_24 rfl 0 rfl ?_
    refine xw_iconst hf (pc := 25) dJx4a65c_grow_92f84_25 (v := 1) (by decide) ?_
    refine xw_ishr hf (pc := 26) dJx4a65c_grow_92f84_26 ?_
    refine xw_callS hf (pc := 27) (nA := 3) (Xr := ZP (xg x) a z) (rest := []) (c_newLen (xl x) (xg x) z.2.1 ⟨h10', hcap⟩) gJx4a65c_grow_92f84_J8_newLength_cabcc (by rfl) rfl (by decide +kernel) ⟨⟨(Nat.le_of_ble_eq_true rfl), (Nat.le_of_ble_eq_true rfl)⟩, Nat.zero_le _, Nat.zero_le _⟩ (Nat.le_of_ble_eq_true rfl) (sb_rf _) rfl dJx4a65c_grow_92f84_27 (fun v X1 hp => ?_)
    obtain ⟨rfl, rfl⟩ := hp
    show ww x (ZP (xg x) a z) [(2, .int (nI z.2.1)), (0, .ref a), (1, .int (nI (z.2.1 + 1)))] 0 0 30 [.int (nI (z.2.1 + z.2.1 / 2))]
    refine xw_istore_n hf (pc := 30) dJx4a65c_grow_92f84_30 rfl [(3, .int (nI (z.2.1 + z.2.1 / 2))), (2, .int (nI z.2.1)), (0, .ref a), (1, .int (nI (z.2.1 + 1)))] hn (by decide) rfl ?_
    refine xw_aload_n hf (pc := 31) dJx4a65c_grow_92f84_31 rfl 2 rfl ?_
    refine xw_aload_n hf (pc := 32) dJx4a65c_grow_92f84_32 rfl 2 rfl ?_
    refine xw_get hf (pc := 33) dJx4a65c_grow_92f84_33 (T := TJx4a65c) (ci := 0) jl_Jx4a65c_grow_92f84_Jx4a65c rfl 0 ZP_00 1 (by decide) rfl jw_Jx4a65c_grow_92f84_22 rfl ?_
    refine xw_iload_n hf (pc := 36) dJx4a65c_grow_92f84_36 rfl 0 rfl ?_
    refine xw_callS hf (pc := 37) (nA := 2) (Xr := []) (rest := [.ref a]) (c_copyOf2 (xl x) (xg x) a z (z.2.1 + z.2.1 / 2) h0 (by omega) (by omega)) gJx4a65c_grow_92f84_J7_copyOf_1904c (by rfl) rfl (by decide +kernel) ⟨⟨(Nat.le_of_ble_eq_true rfl), (Nat.le_of_ble_eq_true rfl)⟩, Nat.le_of_eq (Nat.zero_add 1), Nat.le_of_eq (Nat.zero_add _)⟩ (Nat.le_of_ble_eq_true rfl) (by rw [List.append_nil]; exact sb_rf _) rfl dJx4a65c_grow_92f84_37 (fun v X1 hp => ?_)
    obtain ⟨q, rfl, rfl⟩ := hp
    rw [List.append_nil]
    refine xw_dup_x1 hf (pc := 40) dJx4a65c_grow_92f84_40 rfl rfl ?_
    refine xw_put hf (pc := 41) dJx4a65c_grow_92f84_41 (T := TJx4a65c) (ci := 0) jl_Jx4a65c_grow_92f84_Jx4a65c rfl tyJx4a65c_ok nmJx4a65c 0 (ZP_0 _) 1 (by decide) rfl jw_Jx4a65c_grow_92f84_22 rfl rfl rfl rfl (Nat.le_of_ble_eq_true rfl) _ rfl ?_
    refine xw_X (sb_grow (xg x) a z q (z.2.1 + z.2.1 / 2) (lcp z z.2.1) (by omega) (lcp_eq (by omega) (by omega)) _ rfl) ?_
    exact xw_aret hf (pc := 44) dJx4a65c_grow_92f84_44 hr (Or.inr ⟨_, rfl⟩) (Nat.le_of_eq (Nat.zero_add 1)) (Nat.le_of_eq (Nat.zero_add _)) ⟨q, rfl, rfl⟩
theorem c_grow0 (l : Launch) (g : Gx) (a : Nat) (z : ZL) (h : lok z) (hf0 : lln z = z.2.1) : cm l g yJx4a65c_grow_d5877 wsJx4a65c_grow_d5877 (rmJ 5 240 1 (lgrow z.2.1)) [.ref a] (ZP g a z) (fun v X1 => ∃ q : Nat, v = some (.ref q) ∧ X1 = ZP g a (lrow2 z q (lgrow z.2.1))) := by
  refine cm_of (cc := cJx4a65c_grow_d5877) (nL := 1) (ret := some (.array (.object "java/lang/Object"))) (by decide +kernel) rfl (Nat.le_of_ble_eq_true rfl) ?_
  intro x hf hl hg hn hi hr
  subst hl
  subst hg
  show ww x (ZP (xg x) a z) [(0, .ref a)] 0 0 0 []
  refine xw_aload_n hf (pc := 0) dJx4a65c_grow_d5877_0 rfl 0 rfl ?_
  refine xw_aload_n hf (pc := 1) dJx4a65c_grow_d5877_1 rfl 0 rfl ?_
  refine xw_get hf (pc := 2) dJx4a65c_grow_d5877_2 (T := TJx4a65c) (ci := 0) jl_Jx4a65c_grow_d5877_Jx4a65c rfl 0 ZP_00 2 (by decide) rfl jw_Jx4a65c_grow_d5877_29 rfl ?_
  refine xw_iconst hf (pc := 5) dJx4a65c_grow_d5877_5 (v := 1) (by decide) ?_
  refine xw_iadd hf (pc := 6) dJx4a65c_grow_d5877_6 ?_
  have e : lsz z + 1 = nI (lln z + 1) := (nI_succ _).symm
  rw [e]
  refine xw_callV hf (pc := 7) (nA := 1) (Xr := []) (rest := []) (ci := 0) (T := TJx4a65c) (c_growI (xl x) (xg x) a z h hf0) gJx4a65c_grow_d5877_Jx4a65c_grow_92f84 (by rfl) rfl rfl (by decide +kernel) ⟨⟨(Nat.le_of_ble_eq_true rfl), (Nat.le_of_ble_eq_true rfl)⟩, Nat.le_of_eq (Nat.zero_add 1), Nat.le_of_eq (Nat.zero_add _)⟩ (Nat.le_of_ble_eq_true rfl) rfl (ZP_0 []) (by rw [List.append_nil]; exact sb_rf _) rfl dJx4a65c_grow_d5877_7 (fun v X1 hp => ?_)
  obtain ⟨q, rfl, rfl⟩ := hp
  rw [List.append_nil]
  exact xw_aret hf (pc := 10) dJx4a65c_grow_d5877_10 hr (Or.inr ⟨_, rfl⟩) (Nat.le_of_eq (Nat.zero_add 1)) (Nat.le_of_eq (Nat.zero_add _)) ⟨q, rfl, rfl⟩

/-! adding -/
def ladd1 (z : ZL) (q : Nat) (w : Int64) (p : Int32) : ZL := (z.1, z.2.1, z.2.2.1, lrs z ++ [(q, w, p, 0)])
theorem ZP_split {g : Gx} {a : Nat} {z : ZL} (h : ¬ z.2.1 = 0) : ZP g a z = (a, .inr (0, [.int z.2.2.1, .ref z.1, .int (lsz z)])) :: (z.1, .inl (gO g, z.2.1, .inr (.inr (.inr (.inr (lrf z)))))) :: (lrs z).map lcell := by
  unfold ZP lrow
  rw [if_neg h, if_neg h]
  rfl
theorem ladd1_lrf (z : ZL) (q : Nat) (w : Int64) (p : Int32) (h : lln z < 2 ^ 31) : va_up (lrf z) (lsz z).toNatClampNeg (some q) = lrf (ladd1 z q w p) := by
  have e : (lsz z).toNatClampNeg = (lrs z).length := nI_clamp h
  rw [e]
  funext k
  unfold va_up lrf
  show _ = (((lrs z ++ [(q, w, p, 0)])[k]?).map fun r => r.1)
  by_cases hk : k = (lrs z).length
  · rw [if_pos hk, hk, List.getElem?_append_right (Nat.le_refl _), Nat.sub_self]
    rfl
  · rw [if_neg hk]
    by_cases h2 : k < (lrs z).length
    · rw [List.getElem?_append_left h2]
    · rw [List.getElem?_eq_none (by omega), List.getElem?_eq_none (by rw [List.length_append]; show (lrs z).length + 1 ≤ k; omega)]
theorem ZP_add {g : Gx} {a : Nat} {z : ZL} (q : Nat) (w : Int64) (p : Int32) (h : ¬ z.2.1 = 0) (h2 : lln z < 2 ^ 31) :
    ((ZP g a z ++ ([(q, .inr (5, [.long w, .int p, .int 0]))] : va_W)).set 1 ((led g z, .inl (gO g, z.2.1, .inr (.inr (.inr (.inr (va_up (lrf z) (lsz z).toNatClampNeg (some q))))))) : Nat × va_E)).set 0 ((a, .inr (0, [.int z.2.2.1, .ref (led g z), .int (lsz z + 1)])) : Nat × va_E) = ZP g a (ladd1 z q w p) := by
  have e3 : lsz z + 1 = lsz (ladd1 z q w p) := by
    show nI (lln z) + 1 = nI ((lrs z ++ [(q, w, p, 0)]).length)
    rw [List.length_append, ← nI_succ]
    rfl
  have e4 : led g z = z.1 := if_neg h
  rw [ladd1_lrf z q w p h2, e3, e4, ZP_split h, ZP_split (z := ladd1 z q w p) h]
  show (_ :: _ :: ((lrs z).map lcell ++ [lcell (q, w, p, 0)]) : va_W) = _ :: _ :: ((lrs z ++ [(q, w, p, 0)]).map lcell)
  rw [List.map_append]
  rfl
theorem ZP_last {g : Gx} {a : Nat} {z : ZL} (e : Nat × va_E) (Y : va_W) : (ZP g a z ++ e :: Y)[(ZP g a z).length]? = some e := by
  rw [List.getElem?_append_right (Nat.le_refl _), Nat.sub_self]
  rfl
theorem w_add3 {x : Cx} {mc ms : Nat} (hf : fx x (rmJ 6 280 mc ms) yJx4a65c_add_72be8.cls cJx4a65c_add_72be8 wsJx4a65c_add_72be8) (hn : xn x = 4) {k n : Nat} (hk : k ≤ mc) (hn' : n ≤ ms) {a q : Nat} {w : Int64} {p : Int32} {z : ZL} {i : Int32} {e : Nat} {post : Option Value → va_W → Prop} (hr : re x none mc ms post) (hi : i = lsz z) (he : e = led (xg x) z) (h : lln z < z.2.1) (h3 : z.2.1 < 2 ^ 31) (hp : post none (ZP (xg x) a (ladd1 z q w p))) :
    ww x (ZP (xg x) a z ++ [(q, .inr (5, [.long w, .int p, .int 0]))]) [(2, .ref e), (0, .ref a), (1, .ref q), (3, .int i)] k n 11 [] := by
  subst hi
  subst he
  have h0 : ¬ z.2.1 = 0 := by omega
  have hc : (lsz z).toNatClampNeg = lln z := nI_clamp (by omega)
  refine xw_aload_n hf (pc := 11) dJx4a65c_add_72be8_11 rfl 0 rfl ?_
  refine xw_iload_n hf (pc := 12) dJx4a65c_add_72be8_12 rfl 3 rfl ?_
  refine xw_aload_n hf (pc := 13) dJx4a65c_add_72be8_13 rfl 2 rfl ?_
  refine xw_oast hf dJx4a65c_add_72be8_14 1 (ZP (xg x) a z).length (ZP_1 h0 _) (ZP_last _ []) (nI_in h h3) _ rfl ?_
  refine xw_aload_n hf (pc := 15) dJx4a65c_add_72be8_15 rfl 1 rfl ?_
  refine xw_iload_n hf (pc := 16) dJx4a65c_add_72be8_16 rfl 3 rfl ?_
  refine xw_iconst hf (pc := 17) dJx4a65c_add_72be8_17 (v := 1) (by decide) ?_
  refine xw_iadd hf (pc := 18) dJx4a65c_add_72be8_18 ?_
  refine xw_put hf (pc := 19) dJx4a65c_add_72be8_19 (T := TJx4a65c) (ci := 0) jl_Jx4a65c_add_72be8_Jx4a65c rfl tyJx4a65c_ok nmJx4a65c 0 rfl 2 (by decide) rfl jw_Jx4a65c_add_72be8_30 rfl rfl rfl rfl (Nat.le_of_ble_eq_true rfl) _ (ZP_add q w p h0 (by omega)) ?_
  exact xw_vret hf (pc := 22) dJx4a65c_add_72be8_22 hr hk hn' hp
def laddc (z : ZL) (q : Nat) (w : Int64) (p : Int32) (z' : ZL) : Prop := lrs z' = lrs z ++ [(q, w, p, 0)] ∧ z'.2.2.1 = z.2.2.1 ∧ (lln z < z.2.1 → z'.1 = z.1 ∧ z'.2.1 = z.2.1) ∧ (¬ lln z < z.2.1 → z'.2.1 = lgrow z.2.1)
theorem c_ladd3 (l : Launch) (g : Gx) (a q : Nat) (w : Int64) (p : Int32) (z : ZL) (mc ms : Nat) (h : lok z) (hr0 : lroom z mc ms) : cm l g yJx4a65c_add_72be8 wsJx4a65c_add_72be8 (rmJ 6 280 mc ms) [.ref a, .ref q, .ref (led g z), .int (lsz z)] (ZP g a z ++ [(q, .inr (5, [.long w, .int p, .int 0]))]) (fun v X1 => ∃ z' : ZL, v = none ∧ X1 = ZP g a z' ∧ laddc z q w p z') := by
  refine cm_of (cc := cJx4a65c_add_72be8) (nL := 4) (ret := none) (by decide +kernel) rfl (Nat.le_of_ble_eq_true rfl) ?_
  intro x hf hl hg hn hi hr
  subst hl
  subst hg
  have hcap := h.2.1
  have hle := h.1
  show ww x (ZP (xg x) a z ++ [(q, .inr (5, [.long w, .int p, .int 0]))]) [(0, .ref a), (1, .ref q), (2, .ref (led (xg x) z)), (3, .int (lsz z))] 0 0 0 []
  refine xw_iload_n hf (pc := 0) dJx4a65c_add_72be8_0 rfl 3 rfl ?_
  refine xw_aload_n hf (pc := 1) dJx4a65c_add_72be8_1 rfl 2 rfl ?_
  by_cases h0 : z.2.1 = 0
  · have el : led (xg x) z = gM (xg x) 1 := if_pos h0
    have e0 : lln z = 0 := by omega
    have es : lsz z = 0 := by show nI (lln z) = 0; rw [e0]; rfl
    have hlt : ¬ lln z < z.2.1 := by omega
    have hroom := hr0.resolve_left hlt
    rw [el]
    refine xw_tlen0 hf dJx4a65c_add_72be8_2 ?_
    refine xw_icmp_ne hf (pc := 3) dJx4a65c_add_72be8_3 (tgt := 11) rfl ⟨fun _ => ?_, fun c => absurd es c⟩
    refine xw_aload_n hf (pc := 6) dJx4a65c_add_72be8_6 rfl 0 rfl ?_
    refine xw_callV hf (pc := 7) (nA := 0) (Xr := [(q, .inr (5, [.long w, .int p, .int 0]))]) (rest := []) (ci := 0) (T := TJx4a65c) (c_grow0 (xl x) (xg x) a z h (by omega)) gJx4a65c_add_72be8_Jx4a65c_grow_d5877 (by rfl) rfl rfl (by decide +kernel) ⟨⟨(Nat.le_of_ble_eq_true rfl), (Nat.le_of_ble_eq_true rfl)⟩, by show 0 + 1 ≤ mc; omega, by show 0 + lgrow z.2.1 ≤ ms; omega⟩ (Nat.le_of_ble_eq_true rfl) rfl (ZP_0 _) (sb_rf _) rfl dJx4a65c_add_72be8_7 (fun v X1 hp => ?_)
    obtain ⟨q2, rfl, rfl⟩ := hp
    refine xw_astore_n hf (pc := 10) dJx4a65c_add_72be8_10 rfl [(2, .ref q2), (0, .ref a), (1, .ref q), (3, .int (lsz z))] hn (by decide) rfl ?_
    have eg : lgrow z.2.1 = 10 := by rw [h0]; rfl
    refine w_add3 hf hn (by show 0 + 1 ≤ mc; omega) (by show 0 + lgrow z.2.1 ≤ ms; omega) (z := lrow2 z q2 (lgrow z.2.1)) hr rfl (by rw [eg]; rfl) (by show lln z < lgrow z.2.1; omega) (by show lgrow z.2.1 < 2 ^ 31; omega) ⟨_, rfl, rfl, rfl, rfl, fun c => absurd c hlt, fun _ => rfl⟩
  · refine xw_alen hf dJx4a65c_add_72be8_2 1 3 (ZP_1 h0 _) rfl (v := nI z.2.1) rfl ?_
    by_cases hlt : lln z < z.2.1
    · refine xw_icmp_ne hf (pc := 3) dJx4a65c_add_72be8_3 (tgt := 11) rfl ⟨fun c => absurd c ?_, fun _ => ?_⟩
      · intro c
        have c' : nI (lln z) = nI z.2.1 := c
        have := congrArg Int32.toInt c'
        rw [nI_toInt (by omega), nI_toInt (by omega)] at this
        omega
      · refine xw_L [2, 0, 1, 3] rfl ?_
        exact w_add3 hf hn (Nat.zero_le _) (Nat.zero_le _) hr rfl rfl hlt (by omega) ⟨_, rfl, rfl, rfl, rfl, fun _ => ⟨rfl, rfl⟩, fun c => absurd hlt c⟩
    · have hroom := hr0.resolve_left hlt
      have hfull : lln z = z.2.1 := by omega
      have h10' : 10 ≤ z.2.1 := h.2.2.resolve_left h0
      have eg : lgrow z.2.1 = z.2.1 + z.2.1 / 2 := if_neg h0
      refine xw_icmp_ne hf (pc := 3) dJx4a65c_add_72be8_3 (tgt := 11) rfl ⟨fun _ => ?_, fun c => absurd (show nI (lln z) = nI z.2.1 by rw [hfull]) c⟩
      refine xw_aload_n hf (pc := 6) dJx4a65c_add_72be8_6 rfl 0 rfl ?_
      refine xw_callV hf (pc := 7) (nA := 0) (Xr := [(q, .inr (5, [.long w, .int p, .int 0]))]) (rest := []) (ci := 0) (T := TJx4a65c) (c_grow0 (xl x) (xg x) a z h hfull) gJx4a65c_add_72be8_Jx4a65c_grow_d5877 (by rfl) rfl rfl (by decide +kernel) ⟨⟨(Nat.le_of_ble_eq_true rfl), (Nat.le_of_ble_eq_true rfl)⟩, by show 0 + 1 ≤ mc; omega, by show 0 + lgrow z.2.1 ≤ ms; omega⟩ (Nat.le_of_ble_eq_true rfl) rfl (ZP_0 _) (sb_rf _) rfl dJx4a65c_add_72be8_7 (fun v X1 hp => ?_)
      obtain ⟨q2, rfl, rfl⟩ := hp
      refine xw_astore_n hf (pc := 10) dJx4a65c_add_72be8_10 rfl [(2, .ref q2), (0, .ref a), (1, .ref q), (3, .int (lsz z))] hn (by decide) rfl ?_
      refine w_add3 hf hn (by show 0 + 1 ≤ mc; omega) (by show 0 + lgrow z.2.1 ≤ ms; omega) (z := lrow2 z q2 (lgrow z.2.1)) hr rfl (by show q2 = if lgrow z.2.1 = 0 then _ else q2; rw [if_neg (by omega)]) (by show lln z < lgrow z.2.1; omega) (by show lgrow z.2.1 < 2 ^ 31; omega) ⟨_, rfl, rfl, rfl, rfl, fun c => absurd c hlt, fun _ => rfl⟩
def lmc (z : ZL) : ZL := (z.1, z.2.1, z.2.2.1 + 1, z.2.2.2)
theorem c_ladd (l : Launch) (g : Gx) (a q : Nat) (w : Int64) (p : Int32) (z : ZL) (mc ms : Nat) (h : lok z) (hr0 : lroom z mc ms) : cm l g yJx4a65c_add_9ea2d wsJx4a65c_add_9ea2d (rmJ 7 320 mc ms) [.ref a, .ref q] (ZP g a z ++ [(q, .inr (5, [.long w, .int p, .int 0]))]) (fun v X1 => ∃ z' : ZL, v = some (.int 1) ∧ X1 = ZP g a z' ∧ ladd z q w p z') := by
  refine cm_of (cc := cJx4a65c_add_9ea2d) (nL := 2) (ret := some .boolean) (by decide +kernel) rfl (Nat.le_of_ble_eq_true rfl) ?_
  intro x hf hl hg hn hi hr
  subst hl
  subst hg
  show ww x (ZP (xg x) a z ++ [(q, .inr (5, [.long w, .int p, .int 0]))]) [(0, .ref a), (1, .ref q)] 0 0 0 []
  refine xw_aload_n hf (pc := 0) dJx4a65c_add_9ea2d_0 rfl 0 rfl ?_
  refine xw_dup hf (pc := 1) dJx4a65c_add_9ea2d_1 rfl ?_
  refine xw_getI hf (pc := 2) dJx4a65c_add_9ea2d_2 (T := TJx4a65c) (ci := 0) jl_Jx4a65c_add_9ea2d_Jx4a65c rfl 0 (ZP_0 _) 0 (by decide) jw_Jx4a65c_add_9ea2d_31 jw_Jx4a65c_add_9ea2d_32 rfl ?_
  refine xw_iconst hf (pc := 5) dJx4a65c_add_9ea2d_5 (v := 1) (by decide) ?_
  refine xw_iadd hf (pc := 6) dJx4a65c_add_9ea2d_6 ?_
  refine xw_putI hf (pc := 7) dJx4a65c_add_9ea2d_7 (T := TJx4a65c) (ci := 0) jl_Jx4a65c_add_9ea2d_Jx4a65c rfl tyJx4a65c_ok nmJx4a65c 0 (ZP_0 _) 0 (by decide) jw_Jx4a65c_add_9ea2d_31 jw_Jx4a65c_add_9ea2d_32 rfl rfl rfl rfl (Nat.le_of_ble_eq_true rfl) (ZP (xg x) a (lmc z) ++ [(q, .inr (5, [.long w, .int p, .int 0]))]) rfl ?_
  refine xw_aload_n hf (pc := 10) dJx4a65c_add_9ea2d_10 rfl 0 rfl ?_
  refine xw_aload_n hf (pc := 11) dJx4a65c_add_9ea2d_11 rfl 1 rfl ?_
  refine xw_aload_n hf (pc := 12) dJx4a65c_add_9ea2d_12 rfl 0 rfl ?_
  refine xw_get hf (pc := 13) dJx4a65c_add_9ea2d_13 (T := TJx4a65c) (ci := 0) jl_Jx4a65c_add_9ea2d_Jx4a65c rfl 0 (ZP_0 _) 1 (by decide) rfl jw_Jx4a65c_add_9ea2d_33 rfl ?_
  refine xw_aload_n hf (pc := 16) dJx4a65c_add_9ea2d_16 rfl 0 rfl ?_
  refine xw_get hf (pc := 17) dJx4a65c_add_9ea2d_17 (T := TJx4a65c) (ci := 0) jl_Jx4a65c_add_9ea2d_Jx4a65c rfl 0 (ZP_0 _) 2 (by decide) rfl jw_Jx4a65c_add_9ea2d_34 rfl ?_
  refine xw_callV hf (pc := 20) (nA := 3) (Xr := []) (rest := []) (ci := 0) (T := TJx4a65c) (c_ladd3 (xl x) (xg x) a q w p (lmc z) mc ms h hr0) gJx4a65c_add_9ea2d_Jx4a65c_add_72be8 (by rfl) rfl rfl (by decide +kernel) ⟨⟨(Nat.le_of_ble_eq_true rfl), (Nat.le_of_ble_eq_true rfl)⟩, Nat.le_of_eq (Nat.zero_add _), Nat.le_of_eq (Nat.zero_add _)⟩ (Nat.le_of_ble_eq_true rfl) rfl rfl (by rw [List.append_nil]; exact sb_rf _) rfl dJx4a65c_add_9ea2d_20 (fun v X1 hp => ?_)
  obtain ⟨z', rfl, rfl, hp⟩ := hp
  rw [List.append_nil]
  refine xw_iconst hf (pc := 23) dJx4a65c_add_9ea2d_23 (v := 1) (by decide) ?_
  exact xw_zret hf (pc := 24) dJx4a65c_add_9ea2d_24 hr (Nat.le_of_eq (Nat.zero_add _)) (Nat.le_of_eq (Nat.zero_add _)) rfl ⟨z', rfl, rfl, hp⟩
/-! making -/
theorem c_Jxa1e45_init_da8c8 (l : Launch) (g : Gx) (a : Nat) (X : va_W) : cm l g yJxa1e45_init_da8c8 wsJxa1e45_init_da8c8 (rmJ 1 40 0 0) [.ref a] X (fun v X1 => v = none ∧ X1 = X) := by
  refine cm_of (cc := cJxa1e45_init_da8c8) (nL := 1) (ret := none) (by decide +kernel) rfl (Nat.le_of_ble_eq_true rfl) ?_
  intro x hf hl hg hn hi hr
  subst hl
  subst hg
  show ww x X [(0, .ref a)] 0 0 0 []
  refine xw_aload_n hf (pc := 0) dJxa1e45_init_da8c8_0 rfl 0 rfl ?_
  refine xw_objInit hf jw_Jxa1e45_init_da8c8_35 jw_Jxa1e45_init_da8c8_36 jw_Jxa1e45_init_da8c8_37 ⟨(Nat.le_of_ble_eq_true rfl), (Nat.le_of_ble_eq_true rfl)⟩ (Nat.le_of_ble_eq_true rfl) dJxa1e45_init_da8c8_1 ?_
  exact xw_vret hf (pc := 4) dJxa1e45_init_da8c8_4 hr (Nat.le_of_ble_eq_true rfl) (Nat.le_of_ble_eq_true rfl) ⟨rfl, rfl⟩
theorem c_Jxc12de_init_da8c8 (l : Launch) (g : Gx) (a : Nat) : cm l g yJxc12de_init_da8c8 wsJxc12de_init_da8c8 (rmJ 2 80 0 0) [.ref a] [(a, .inr (0, [.int 0, .null, .int 0]))] (fun v X1 => v = none ∧ X1 = [(a, .inr (0, [.int 0, .null, .int 0]))]) := by
  refine cm_of (cc := cJxc12de_init_da8c8) (nL := 1) (ret := none) (by decide +kernel) rfl (Nat.le_of_ble_eq_true rfl) ?_
  intro x hf hl hg hn hi hr
  subst hl
  subst hg
  show ww x [(a, .inr (0, [.int 0, .null, .int 0]))] [(0, .ref a)] 0 0 0 []
  refine xw_aload_n hf (pc := 0) dJxc12de_init_da8c8_0 rfl 0 rfl ?_
  refine xw_callI hf (pc := 1) (nA := 0) (Xr := []) (rest := []) (c_Jxa1e45_init_da8c8 (xl x) (xg x) a [(a, .inr (0, [.int 0, .null, .int 0]))]) gJxc12de_init_da8c8_Jxa1e45_init_da8c8 (by rfl) jw_Jxc12de_init_da8c8_38 jw_Jxc12de_init_da8c8_39 jw_Jxc12de_init_da8c8_40 rfl rfl (by decide +kernel) ⟨⟨(Nat.le_of_ble_eq_true rfl), (Nat.le_of_ble_eq_true rfl)⟩, (Nat.le_of_ble_eq_true rfl), (Nat.le_of_ble_eq_true rfl)⟩ (Nat.le_of_ble_eq_true rfl) (sb_rf _) rfl dJxc12de_init_da8c8_1 (fun v X1 hp => ?_)
  obtain ⟨rfl, rfl⟩ := hp
  show ww x [(a, .inr (0, [.int 0, .null, .int 0]))] [(0, .ref a)] 0 0 4 []
  refine xw_aload_n hf (pc := 4) dJxc12de_init_da8c8_4 rfl 0 rfl ?_
  refine xw_iconst hf (pc := 5) dJxc12de_init_da8c8_5 (v := 0) (by decide) ?_
  refine xw_put hf (pc := 6) dJxc12de_init_da8c8_6 (T := TJx4a65c) (ci := 0) jl_Jxc12de_init_da8c8_Jx4a65c rfl tyJx4a65c_ok nmJx4a65c 0 rfl 0 (by decide) rfl jw_Jxc12de_init_da8c8_41 rfl rfl rfl rfl (Nat.le_of_ble_eq_true rfl) [(a, .inr (0, [.int 0, .null, .int 0]))] rfl ?_
  exact xw_vret hf (pc := 9) dJxc12de_init_da8c8_9 hr (Nat.le_of_ble_eq_true rfl) (Nat.le_of_ble_eq_true rfl) ⟨rfl, rfl⟩
theorem c_Jx4a65c_init_da8c8 (l : Launch) (g : Gx) (a0 : Nat) : cm l g yJx4a65c_init_da8c8 wsJx4a65c_init_da8c8 (rmJ 3 120 0 0) [.ref a0] [(a0, .inr (0, [.int 0, .null, .int 0]))] (fun v X1 => v = none ∧ X1 = [(a0, .inr (0, [.int 0, .ref (gM g 1), .int 0]))]) := by
  refine cm_of (cc := cJx4a65c_init_da8c8) (nL := 1) (ret := none) (by decide +kernel) rfl (Nat.le_of_ble_eq_true rfl) ?_
  intro x hf hl hg hn hi hr
  subst hl
  subst hg
  show ww x [(a0, .inr (0, [.int 0, .null, .int 0]))] [(0, .ref a0)] 0 0 0 []
  refine xw_aload_n hf (pc := 0) dJx4a65c_init_da8c8_0 rfl 0 rfl ?_
  refine xw_callI hf (pc := 1) (nA := 0) (Xr := []) (rest := []) (c_Jxc12de_init_da8c8 (xl x) (xg x) a0) gJx4a65c_init_da8c8_Jxc12de_init_da8c8 (by rfl) jw_Jx4a65c_init_da8c8_42 jw_Jx4a65c_init_da8c8_43 jw_Jx4a65c_init_da8c8_44 rfl rfl (by decide +kernel) ⟨⟨(Nat.le_of_ble_eq_true rfl), (Nat.le_of_ble_eq_true rfl)⟩, (Nat.le_of_ble_eq_true rfl), (Nat.le_of_ble_eq_true rfl)⟩ (Nat.le_of_ble_eq_true rfl) (sb_rf _) rfl dJx4a65c_init_da8c8_1 (fun v X1 hp => ?_)
  obtain ⟨rfl, rfl⟩ := hp
  show ww x [(a0, .inr (0, [.int 0, .null, .int 0]))] [(0, .ref a0)] 0 0 4 []
  refine xw_aload_n hf (pc := 4) dJx4a65c_init_da8c8_4 rfl 0 rfl ?_
  refine xw_gets hf (pc := 5) (fah hf).2.2.2.1 jw_Jx4a65c_init_da8c8_45 dJx4a65c_init_da8c8_5 ?_
  refine xw_put hf (pc := 8) dJx4a65c_init_da8c8_8 (T := TJx4a65c) (ci := 0) jl_Jx4a65c_init_da8c8_Jx4a65c rfl tyJx4a65c_ok nmJx4a65c 0 rfl 1 (by decide) rfl jw_Jx4a65c_init_da8c8_46 rfl rfl rfl rfl (Nat.le_of_ble_eq_true rfl) [(a0, .inr (0, [.int 0, .ref (gM (xg x) 1), .int 0]))] rfl ?_
  exact xw_vret hf (pc := 11) dJx4a65c_init_da8c8_11 hr (Nat.le_of_ble_eq_true rfl) (Nat.le_of_ble_eq_true rfl) ⟨rfl, rfl⟩
