/-! the list and the constant strings -/
theorem jw_Jx4a65c_size_8abf5_0 : (Cond.fieldLink RJx4a65c 48 "java/util/ArrayList" "size" "I") ∈ wsJx4a65c_size_8abf5 := (List.mem_cons_of_mem _ (List.mem_append_left _ (List.mem_of_getElem? (i := 0) rfl)))
theorem jw_Jx4a65c_elementData_915e3_1 : (Cond.fieldLink RJx4a65c 9 "java/util/ArrayList" "elementData" "[Ljava/lang/Object;") ∈ wsJx4a65c_elementData_915e3 := (List.mem_cons_of_mem _ (List.mem_append_left _ (List.mem_of_getElem? (i := 0) rfl)))
theorem jw_Jx4a65c_get_915e3_2 : (Cond.fieldLink RJx4a65c 48 "java/util/ArrayList" "size" "I") ∈ wsJx4a65c_get_915e3 := (List.mem_cons_of_mem _ (List.mem_append_left _ (List.mem_of_getElem? (i := 0) rfl)))
theorem jl_Jx4a65c_size_8abf5_Jx4a65c : ∀ w ∈ wsJx4a65c0, w ∈ wsJx4a65c_size_8abf5 := fun _ h => (List.mem_cons_of_mem _ (List.mem_append_right _ h))
theorem jl_Jx4a65c_elementData_915e3_Jx4a65c : ∀ w ∈ wsJx4a65c0, w ∈ wsJx4a65c_elementData_915e3 := fun _ h => (List.mem_cons_of_mem _ (List.mem_append_right _ h))
theorem jl_Jx4a65c_get_915e3_Jx4a65c : ∀ w ∈ wsJx4a65c0, w ∈ wsJx4a65c_get_915e3 := fun _ h => (List.mem_cons_of_mem _ (List.mem_append_right _ h))
abbrev rmJ (fr lo c s : Nat) : Room := { frames := fr, cells := c, slots := s, locals := lo }
def led (g : Gx) (z : ZL) : Nat := if z.2.1 = 0 then gM g 1 else z.1
theorem ZP_0 {g : Gx} {a : Nat} {z : ZL} (Y : va_W) : (ZP g a z ++ Y)[0]? = some (a, .inr (0, [.int z.2.2.1, .ref (led g z), .int (lsz z)])) := rfl
theorem ZP_00 {g : Gx} {a : Nat} {z : ZL} : (ZP g a z)[0]? = some (a, .inr (0, [.int z.2.2.1, .ref (led g z), .int (lsz z)])) := rfl
theorem ZP_1 {g : Gx} {a : Nat} {z : ZL} (h : ¬ z.2.1 = 0) (Y : va_W) : (ZP g a z ++ Y)[1]? = some (led g z, .inl (gO g, z.2.1, .inr (.inr (.inr (.inr (lrf z)))))) := by
  unfold ZP led lrow
  rw [if_neg h, if_neg h]
  rfl
theorem ZP_10 {g : Gx} {a : Nat} {z : ZL} (h : ¬ z.2.1 = 0) : (ZP g a z)[1]? = some (led g z, .inl (gO g, z.2.1, .inr (.inr (.inr (.inr (lrf z)))))) := by
  have := ZP_1 (g := g) (a := a) h []
  rwa [List.append_nil] at this
def lgo (i : Int32) (z : ZL) : Prop := vp_in i (lln z) ∧ lln z ≤ z.2.1
abbrev lgp (i : Int32) (z : ZL) : Prop := lgo i z ∧ lln z < 2 ^ 31
theorem vp_nlt {i : Int32} {n : Nat} (h : vp_in i n) : ¬ i < 0 := fun q => h (Or.inl q)
theorem c_lsize (l : Launch) (g : Gx) (a : Nat) (z : ZL) : cm l g yJx4a65c_size_8abf5 wsJx4a65c_size_8abf5 (rmJ 0 0 0 0) [.ref a] (ZP g a z) (fun v X1 => v = some (.int (lsz z)) ∧ X1 = ZP g a z) := by
  refine cm_of (cc := cJx4a65c_size_8abf5) (nL := 1) (ret := some .int) (by decide +kernel) rfl (Nat.le_of_ble_eq_true rfl) ?_
  intro x hf hl hg hn hi hr
  subst hl
  subst hg
  show ww x (ZP (xg x) a z) [(0, .ref a)] 0 0 0 []
  refine xw_aload_n hf (pc := 0) dJx4a65c_size_8abf5_0 rfl 0 rfl ?_
  refine xw_get hf (pc := 1) dJx4a65c_size_8abf5_1 (T := TJx4a65c) (ci := 0) jl_Jx4a65c_size_8abf5_Jx4a65c rfl 0 ZP_00 2 (by decide) rfl jw_Jx4a65c_size_8abf5_0 rfl ?_
  exact xw_iret hf (pc := 4) dJx4a65c_size_8abf5_4 hr (Nat.le_of_ble_eq_true rfl) (Nat.le_of_ble_eq_true rfl) ⟨rfl, rfl⟩
theorem c_ckI3 (l : Launch) (g : Gx) (i n : Int32) (f0 : Value) (h0 : ¬ i < 0) (h1 : i < n) : cm l g yJ3_checkIndex_8e157 wsJ3_checkIndex_8e157 (rmJ 0 0 0 0) [.int i, .int n, .null] [] (fun v X1 => v = some (.int i) ∧ X1 = []) := by
  refine cm_of (cc := cJ3_checkIndex_8e157) (nL := 3) (ret := some .int) (by decide +kernel) rfl (Nat.le_of_ble_eq_true rfl) ?_
  intro x hf hl hg hn hi hr
  subst hl
  subst hg
  show ww x [] [(0, .int i), (1, .int n), (2, .null)] 0 0 0 []
  refine xw_iload_n hf (pc := 0) dJ3_checkIndex_8e157_0 rfl 0 rfl ?_
  refine xw_if_lt hf (pc := 1) dJ3_checkIndex_8e157_1 Iff.rfl (tgt := 9) rfl ⟨fun c => absurd c h0, fun _ => ?_⟩
  refine xw_iload_n hf (pc := 4) dJ3_checkIndex_8e157_4 rfl 0 rfl ?_
  refine xw_iload_n hf (pc := 5) dJ3_checkIndex_8e157_5 rfl 1 rfl ?_
  refine xw_icmp_lt hf (pc := 6) dJ3_checkIndex_8e157_6 (tgt := 16) rfl ⟨fun _ => ?_, fun c => absurd h1 c⟩
  refine xw_iload_n hf (pc := 16) dJ3_checkIndex_8e157_16 rfl 0 rfl ?_
  exact xw_iret hf (pc := 17) dJ3_checkIndex_8e157_17 hr (Nat.le_of_ble_eq_true rfl) (Nat.le_of_ble_eq_true rfl) ⟨rfl, rfl⟩
theorem c_ckI (l : Launch) (g : Gx) (i n : Int32) (h0 : ¬ i < 0) (h1 : i < n) : cm l g yJ15_checkIndex_7cf53 wsJ15_checkIndex_7cf53 (rmJ 1 24 0 0) [.int i, .int n] [] (fun v X1 => v = some (.int i) ∧ X1 = []) := by
  refine cm_of (cc := cJ15_checkIndex_7cf53) (nL := 2) (ret := some .int) (by decide +kernel) rfl (Nat.le_of_ble_eq_true rfl) ?_
  intro x hf hl hg hn hi hr
  subst hl
  subst hg
  show ww x [] [(0, .int i), (1, .int n)] 0 0 0 []
  refine xw_iload_n hf (pc := 0) dJ15_checkIndex_7cf53_0 rfl 0 rfl ?_
  refine xw_iload_n hf (pc := 1) dJ15_checkIndex_7cf53_1 rfl 1 rfl ?_
  refine xw_null hf (pc := 2) dJ15_checkIndex_7cf53_2 ?_
  refine xw_callS hf (pc := 3) (nA := 3) (Xr := []) (rest := []) (c_ckI3 (xl x) (xg x) i n .null h0 h1) gJ15_checkIndex_7cf53_J3_checkIndex_8e157 (by rfl) rfl (by decide +kernel) ⟨⟨(Nat.le_of_ble_eq_true rfl), (Nat.le_of_ble_eq_true rfl)⟩, (Nat.le_of_ble_eq_true rfl), (Nat.le_of_ble_eq_true rfl)⟩ (Nat.le_of_ble_eq_true rfl) (sb_rf _) rfl dJ15_checkIndex_7cf53_3 (fun v X1 hp => ?_)
  obtain ⟨rfl, rfl⟩ := hp
  exact xw_iret hf (pc := 6) dJ15_checkIndex_7cf53_6 hr (Nat.le_of_ble_eq_true rfl) (Nat.le_of_ble_eq_true rfl) ⟨rfl, rfl⟩
theorem lrf_at {z : ZL} {i : Nat} (h : i < lln z) : lrf z i = some (lga z i) := by
  unfold lrf lga lrc
  have h' : i < (lrs z).length := h
  rw [List.getElem?_eq_getElem h']
  rfl
theorem c_ledat (l : Launch) (g : Gx) (a : Nat) (z : ZL) (i : Int32) (h : lgo i z) : cm l g yJx4a65c_elementData_915e3 wsJx4a65c_elementData_915e3 (rmJ 0 0 0 0) [.ref a, .int i] (ZP g a z) (fun v X1 => v = some (.ref (lga z i.toNatClampNeg)) ∧ X1 = ZP g a z) := by
  refine cm_of (cc := cJx4a65c_elementData_915e3) (nL := 2) (ret := some (.object "java/lang/Object")) (by decide +kernel) rfl (Nat.le_of_ble_eq_true rfl) ?_
  intro x hf hl hg hn hi hr
  subst hl
  subst hg
  have h1 := vp_lt h.1
  have h2 := h.2
  have h3 : ¬ z.2.1 = 0 := by omega
  show ww x (ZP (xg x) a z) [(0, .ref a), (1, .int i)] 0 0 0 []
  refine xw_aload_n hf (pc := 0) dJx4a65c_elementData_915e3_0 rfl 0 rfl ?_
  refine xw_get hf (pc := 1) dJx4a65c_elementData_915e3_1 (T := TJx4a65c) (ci := 0) jl_Jx4a65c_elementData_915e3_Jx4a65c rfl 0 ZP_00 1 (by decide) rfl jw_Jx4a65c_elementData_915e3_1 rfl ?_
  refine xw_iload_n hf (pc := 4) dJx4a65c_elementData_915e3_4 rfl 1 rfl ?_
  refine xw_oald hf (pc := 5) dJx4a65c_elementData_915e3_5 1 (ZP_10 h3) (fun q => q.elim (vp_nlt h.1) (fun q => by omega)) ?_
  rw [lrf_at h1]
  exact xw_aret hf (pc := 6) dJx4a65c_elementData_915e3_6 hr (Or.inl ⟨_, rfl⟩) (Nat.le_of_ble_eq_true rfl) (Nat.le_of_ble_eq_true rfl) ⟨rfl, rfl⟩
theorem nI_lt' {i : Int32} {n : Nat} (h : vp_in i n) (hn : n < 2 ^ 31) : i < nI n := by
  have h0 := vp_nlt h
  have h1 := vp_lt h
  have e : (0 : Int) ≤ i.toInt := by
    have := Int32.not_lt.mp h0
    simpa using Int32.le_iff_toInt_le.mp this
  rw [Int32.lt_iff_toInt_lt, nI_toInt hn]
  have : i.toNatClampNeg = i.toInt.toNat := rfl
  omega
theorem c_lget (l : Launch) (g : Gx) (a : Nat) (z : ZL) (i : Int32) (h : lgo i z ∧ lln z < 2 ^ 31) : cm l g yJx4a65c_get_915e3 wsJx4a65c_get_915e3 (rmJ 4 120 0 0) [.ref a, .int i] (ZP g a z) (fun v X1 => v = some (.ref (lga z i.toNatClampNeg)) ∧ X1 = ZP g a z) := by
  refine cm_of (cc := cJx4a65c_get_915e3) (nL := 2) (ret := some (.object "java/lang/Object")) (by decide +kernel) rfl (Nat.le_of_ble_eq_true rfl) ?_
  intro x hf hl hg hn hi hr
  subst hl
  subst hg
  show ww x (ZP (xg x) a z) [(0, .ref a), (1, .int i)] 0 0 0 []
  refine xw_iload_n hf (pc := 0) dJx4a65c_get_915e3_0 rfl 1 rfl ?_
  refine xw_aload_n hf (pc := 1) dJx4a65c_get_915e3_1 rfl 0 rfl ?_
  refine xw_get hf (pc := 2) dJx4a65c_get_915e3_2 (T := TJx4a65c) (ci := 0) jl_Jx4a65c_get_915e3_Jx4a65c rfl 0 ZP_00 2 (by decide) rfl jw_Jx4a65c_get_915e3_2 rfl ?_
  refine xw_callS hf (pc := 5) (nA := 2) (Xr := ZP (xg x) a z) (rest := []) (c_ckI (xl x) (xg x) i (lsz z) (vp_nlt h.1.1) (nI_lt' h.1.1 h.2)) gJx4a65c_get_915e3_J15_checkIndex_7cf53 (by rfl) rfl (by decide +kernel) ⟨⟨(Nat.le_of_ble_eq_true rfl), (Nat.le_of_ble_eq_true rfl)⟩, (Nat.le_of_ble_eq_true rfl), (Nat.le_of_ble_eq_true rfl)⟩ (Nat.le_of_ble_eq_true rfl) (sb_rf _) rfl dJx4a65c_get_915e3_5 (fun v X1 hp => ?_)
  obtain ⟨rfl, rfl⟩ := hp
  show ww x (ZP (xg x) a z) [(0, .ref a), (1, .int i)] 0 0 8 [.int i]
  refine xw_pop hf (pc := 8) dJx4a65c_get_915e3_8 rfl ?_
  refine xw_aload_n hf (pc := 9) dJx4a65c_get_915e3_9 rfl 0 rfl ?_
  refine xw_iload_n hf (pc := 10) dJx4a65c_get_915e3_10 rfl 1 rfl ?_
  refine xw_callV hf (pc := 11) (nA := 1) (Xr := []) (rest := []) (ci := 0) (T := TJx4a65c) (c_ledat (xl x) (xg x) a z i h.1) gJx4a65c_get_915e3_Jx4a65c_elementData_915e3 (by rfl) rfl rfl (by decide +kernel) ⟨⟨(Nat.le_of_ble_eq_true rfl), (Nat.le_of_ble_eq_true rfl)⟩, (Nat.le_of_ble_eq_true rfl), (Nat.le_of_ble_eq_true rfl)⟩ (Nat.le_of_ble_eq_true rfl) rfl (ZP_0 []) (by rw [List.append_nil]; exact sb_rf _) rfl dJx4a65c_get_915e3_11 (fun v X1 hp => ?_)
  obtain ⟨rfl, rfl⟩ := hp
  rw [List.append_nil]
  exact xw_aret hf (pc := 14) dJx4a65c_get_915e3_14 hr (Or.inl ⟨_, rfl⟩) (Nat.le_of_ble_eq_true rfl) (Nat.le_of_ble_eq_true rfl) ⟨rfl, rfl⟩
