abbrev W_X5_basePrice (g : Gx) (a0 a1 a2 a3 : Nat) (v0 : Nat → Int32) : va_W := [(a0, .inr (6, [.ref a2, .ref a1, .ref a3])), (a1, .inl (gI g, 32, .inl v0))]
abbrev rm_X5_basePrice : Room := { frames := 0, cells := 0, slots := 0, locals := 0 }
theorem mw_X5_basePrice_0 : (Cond.fieldLink RX5 18 "AnagramButcher$Stock" "basePrices" "[I" : Cond) ∈ wsX5_basePrice := (List.mem_cons_of_mem _ (List.mem_append_left _ (List.mem_of_getElem? (i := 0) rfl)))
theorem mi_X5_basePrice_X5 : ∀ w ∈ wsX50, w ∈ wsX5_basePrice := fun _ h => (List.mem_cons_of_mem _ (List.mem_append_right _ h))
set_option maxHeartbeats 4000000 in
set_option maxRecDepth 100000 in
theorem c_X5_basePrice (l : Launch) (g : Gx) (a0 a1 a2 a3 : Nat) (v0 : Nat → Int32) (p1 : Int32) {post : Int32 → Prop} (h : P_X5_basePrice post p1 v0) : cm l g yX5_basePrice wsX5_basePrice (rm_X5_basePrice) [.ref a0, .int p1] (W_X5_basePrice g a0 a1 a2 a3 v0) (fun v X1 => ∃ (r : Int32), v = some (.int r) ∧ X1 = W_X5_basePrice g a0 a1 a2 a3 v0 ∧ post r) := by
  refine cm_of (cc := cX5_basePrice) (nL := 2) (ret := (some .int)) (by decide +kernel) rfl (Nat.le_of_ble_eq_true rfl) ?_
  intro x hf hl hg hn hi hr
  subst hl
  subst hg
  show ww x (W_X5_basePrice (xg x) a0 a1 a2 a3 v0) [(0, .ref a0), (1, .int p1)] 0 0 0 []
  unfold P_X5_basePrice at h
  refine xw_aload_n hf (pc := 0) dX5_basePrice_0 rfl 0 rfl ?_
  refine xw_get hf (pc := 1) dX5_basePrice_1 (T := TX5) mi_X5_basePrice_X5 rfl 0 rfl 1 (by decide) rfl mw_X5_basePrice_0 rfl ?_
  refine xw_iload_n hf (pc := 4) dX5_basePrice_4 rfl 1 rfl ?_
  refine xw_bipush hf (pc := 5) dX5_basePrice_5 (v := 31) (by decide) ?_
  refine xw_iand hf (pc := 7) dX5_basePrice_7 ?_
  refine xw_iald hf (pc := 8) dX5_basePrice_8 1 rfl h.1 ?_
  have h := h.2
  exact xw_iret hf (pc := 9) dX5_basePrice_9 hr (Nat.le_of_ble_eq_true rfl) (Nat.le_of_ble_eq_true rfl) ⟨_, rfl, rfl, h⟩
abbrev W_X5_changeBasePrice (g : Gx) (a0 a1 a2 a3 : Nat) (v0 : Nat → Int32) : va_W := [(a0, .inr (6, [.ref a2, .ref a1, .ref a3])), (a1, .inl (gI g, 32, .inl v0))]
abbrev rm_X5_changeBasePrice : Room := { frames := 1, cells := 0, slots := 0, locals := 21 }
theorem mw_X5_changeBasePrice_0 : (Cond.fieldLink RX5 18 "AnagramButcher$Stock" "basePrices" "[I" : Cond) ∈ wsX5_changeBasePrice := (List.mem_cons_of_mem _ (List.mem_append_left _ (List.mem_of_getElem? (i := 0) rfl)))
theorem mi_X5_changeBasePrice_X5 : ∀ w ∈ wsX50, w ∈ wsX5_changeBasePrice := fun _ h => (List.mem_cons_of_mem _ (List.mem_append_right _ h))
set_option maxHeartbeats 4000000 in
set_option maxRecDepth 100000 in
theorem c_X5_changeBasePrice (l : Launch) (g : Gx) (a0 a1 a2 a3 : Nat) (v0 : Nat → Int32) (p1 : Int32) (p2 : Int32) {post : Int32 → (Nat → Int32) → Prop} (h : P_X5_changeBasePrice post p1 p2 v0) : cm l g yX5_changeBasePrice wsX5_changeBasePrice (rm_X5_changeBasePrice) [.ref a0, .int p1, .int p2] (W_X5_changeBasePrice g a0 a1 a2 a3 v0) (fun v X1 => ∃ (r : Int32) (uv0 : Nat → Int32), v = some (.int r) ∧ X1 = W_X5_changeBasePrice g a0 a1 a2 a3 uv0 ∧ post r uv0) := by
  refine cm_of (cc := cX5_changeBasePrice) (nL := 4) (ret := (some .int)) (by decide +kernel) rfl (Nat.le_of_ble_eq_true rfl) ?_
  intro x hf hl hg hn hi hr
  subst hl
  subst hg
  show ww x (W_X5_changeBasePrice (xg x) a0 a1 a2 a3 v0) [(0, .ref a0), (1, .int p1), (2, .int p2)] 0 0 0 []
  unfold P_X5_changeBasePrice at h
  refine xw_aload_n hf (pc := 0) dX5_changeBasePrice_0 rfl 0 rfl ?_
  refine xw_iload_n hf (pc := 1) dX5_changeBasePrice_1 rfl 1 rfl ?_
  refine xw_callV hf (pc := 2) (nA := 1) (Xr := []) (rest := []) (T := TX5) (c_X5_basePrice (xl x) (xg x) a0 a1 a2 a3 v0 p1 h) gX5_changeBasePrice_X5_basePrice (by rfl) rfl rfl (by decide +kernel) ⟨⟨(Nat.le_of_ble_eq_true rfl), (Nat.le_of_ble_eq_true rfl)⟩, (Nat.le_of_ble_eq_true rfl), (Nat.le_of_ble_eq_true rfl)⟩ (Nat.le_of_ble_eq_true rfl) rfl rfl (sb_of [0, 1] rfl rfl) rfl dX5_changeBasePrice_2 (fun v X1 hp => ?_)
  obtain ⟨r1, rfl, rfl, h⟩ := hp
  refine xw_X (sb_of [0, 1] rfl rfl) (show ww x (W_X5_changeBasePrice (xg x) a0 a1 a2 a3 v0) [(0, .ref a0), (1, .int p1), (2, .int p2)] 0 0 5 [.int r1] from ?_)
  refine xw_istore_n hf (pc := 5) dX5_changeBasePrice_5 rfl [(3, .int r1), (0, .ref a0), (1, .int p1), (2, .int p2)] hn (by decide) rfl ?_
  refine xw_aload_n hf (pc := 6) dX5_changeBasePrice_6 rfl 1 rfl ?_
  refine xw_get hf (pc := 7) dX5_changeBasePrice_7 (T := TX5) mi_X5_changeBasePrice_X5 rfl 0 rfl 1 (by decide) rfl mw_X5_changeBasePrice_0 rfl ?_
  refine xw_iload_n hf (pc := 10) dX5_changeBasePrice_10 rfl 2 rfl ?_
  refine xw_bipush hf (pc := 11) dX5_changeBasePrice_11 (v := 31) (by decide) ?_
  refine xw_iand hf (pc := 13) dX5_changeBasePrice_13 ?_
  refine xw_iload_n hf (pc := 14) dX5_changeBasePrice_14 rfl 3 rfl ?_
  refine xw_iast hf (pc := 15) dX5_changeBasePrice_15 1 rfl h.1 (W_X5_changeBasePrice (xg x) a0 a1 a2 a3 (upd v0 (p1 &&& 31).toNatClampNeg p2)) rfl ?_
  have h := h.2
  refine xw_iload_n hf (pc := 16) dX5_changeBasePrice_16 rfl 0 rfl ?_
  exact xw_iret hf (pc := 17) dX5_changeBasePrice_17 hr (Nat.le_of_ble_eq_true rfl) (Nat.le_of_ble_eq_true rfl) ⟨_, _, rfl, rfl, h⟩
abbrev W_X5_presentPrice (g : Gx) (a0 a1 a2 a3 a4 : Nat) (v0 : Nat → Int32) (v1 : Nat → Int32) : va_W := [(a0, .inr (6, [.ref a1, .ref a3, .ref a4])), (a1, .inr (3, [.ref a2])), (a2, .inl (gI g, 32, .inl v0)), (a3, .inl (gI g, 32, .inl v1))]
abbrev rm_X5_presentPrice : Room := { frames := 1, cells := 0, slots := 0, locals := 21 }
theorem mw_X5_presentPrice_0 : (Cond.fieldLink RX5 10 "AnagramButcher$Stock" "pieces" "LAnagramButcher$Pile;" : Cond) ∈ wsX5_presentPrice := (List.mem_cons_of_mem _ (List.mem_append_left _ (List.mem_append_left _ (List.mem_of_getElem? (i := 0) rfl))))
theorem mw_X5_presentPrice_1 : (Cond.methodLink RX5 38 Lib.Math.max.name : Cond) ∈ wsX5_presentPrice := (List.mem_cons_of_mem _ (List.mem_append_left _ (List.mem_append_left _ (List.mem_of_getElem? (i := 1) rfl))))
theorem mw_X5_presentPrice_2 : (Cond.static Lib.Math.max.name : Cond) ∈ wsX5_presentPrice := (List.mem_cons_of_mem _ (List.mem_append_left _ (List.mem_append_left _ (List.mem_of_getElem? (i := 2) rfl))))
theorem mw_X5_presentPrice_3 : (Cond.initialized "java/lang/Math" : Cond) ∈ wsX5_presentPrice := (List.mem_cons_of_mem _ (List.mem_append_left _ (List.mem_append_left _ (List.mem_of_getElem? (i := 3) rfl))))
theorem mw_X5_presentPrice_4 : (Cond.code Lib.Math.max.name Lib.Math.max.code 2 (some .int) : Cond) ∈ wsX5_presentPrice := (List.mem_cons_of_mem _ (List.mem_append_left _ (List.mem_append_left _ (List.mem_of_getElem? (i := 4) rfl))))
theorem mi_X5_presentPrice_X5 : ∀ w ∈ wsX50, w ∈ wsX5_presentPrice := fun _ h => (List.mem_cons_of_mem _ (List.mem_append_left _ (List.mem_append_right _ h)))
set_option maxHeartbeats 4000000 in
set_option maxRecDepth 100000 in
theorem c_X5_presentPrice (l : Launch) (g : Gx) (a0 a1 a2 a3 a4 : Nat) (v0 : Nat → Int32) (v1 : Nat → Int32) (p1 : Int32) {post : Int32 → Prop} (h : P_X5_presentPrice post p1 v0 v1) : cm l g yX5_presentPrice wsX5_presentPrice (rm_X5_presentPrice) [.ref a0, .int p1] (W_X5_presentPrice g a0 a1 a2 a3 a4 v0 v1) (fun v X1 => ∃ (r : Int32), v = some (.int r) ∧ X1 = W_X5_presentPrice g a0 a1 a2 a3 a4 v0 v1 ∧ post r) := by
  refine cm_of (cc := cX5_presentPrice) (nL := 4) (ret := (some .int)) (by decide +kernel) rfl (Nat.le_of_ble_eq_true rfl) ?_
  intro x hf hl hg hn hi hr
  subst hl
  subst hg
  show ww x (W_X5_presentPrice (xg x) a0 a1 a2 a3 a4 v0 v1) [(0, .ref a0), (1, .int p1)] 0 0 0 []
  unfold P_X5_presentPrice at h
  refine xw_aload_n hf (pc := 0) dX5_presentPrice_0 rfl 0 rfl ?_
  refine xw_iload_n hf (pc := 1) dX5_presentPrice_1 rfl 1 rfl ?_
  refine xw_callV hf (pc := 2) (nA := 1) (Xr := [(a1, .inr (3, [.ref a2])), (a2, .inl (gI (xg x), 32, .inl v0))]) (rest := []) (T := TX5) (c_X5_basePrice (xl x) (xg x) a0 a3 a1 a4 v1 p1 h) gX5_presentPrice_X5_basePrice (by rfl) rfl rfl (by decide +kernel) ⟨⟨(Nat.le_of_ble_eq_true rfl), (Nat.le_of_ble_eq_true rfl)⟩, (Nat.le_of_ble_eq_true rfl), (Nat.le_of_ble_eq_true rfl)⟩ (Nat.le_of_ble_eq_true rfl) rfl rfl (sb_of [0, 3, 1, 2] rfl rfl) rfl dX5_presentPrice_2 (fun v X1 hp => ?_)
  obtain ⟨r1, rfl, rfl, h⟩ := hp
  refine xw_X (sb_of [0, 2, 3, 1] rfl rfl) (show ww x (W_X5_presentPrice (xg x) a0 a1 a2 a3 a4 v0 v1) [(0, .ref a0), (1, .int p1)] 0 0 5 [.int r1] from ?_)
  refine xw_istore_n hf (pc := 5) dX5_presentPrice_5 rfl [(2, .int r1), (0, .ref a0), (1, .int p1)] hn (by decide) rfl ?_
  refine xw_iconst hf (pc := 6) dX5_presentPrice_6 (v := 0) (by decide) ?_
  refine xw_bipush hf (pc := 7) dX5_presentPrice_7 (v := 10) (by decide) ?_
  refine xw_aload_n hf (pc := 9) dX5_presentPrice_9 rfl 1 rfl ?_
  refine xw_get hf (pc := 10) dX5_presentPrice_10 (T := TX5) mi_X5_presentPrice_X5 rfl 0 rfl 0 (by decide) rfl mw_X5_presentPrice_0 rfl ?_
  refine xw_iload_n hf (pc := 13) dX5_presentPrice_13 rfl 2 rfl ?_
  refine xw_callV hf (pc := 14) (nA := 1) (Xr := [(a0, .inr (6, [.ref a1, .ref a3, .ref a4])), (a3, .inl (gI (xg x), 32, .inl v1))]) (rest := [.int 10, .int 0]) (T := TX2) (c_X2_count (xl x) (xg x) a1 a2 v0 p1 h) gX5_presentPrice_X2_count (by rfl) rfl rfl (by decide +kernel) ⟨⟨(Nat.le_of_ble_eq_true rfl), (Nat.le_of_ble_eq_true rfl)⟩, (Nat.le_of_ble_eq_true rfl), (Nat.le_of_ble_eq_true rfl)⟩ (Nat.le_of_ble_eq_true rfl) rfl rfl (sb_of [1, 2, 0, 3] rfl rfl) rfl dX5_presentPrice_14 (fun v X1 hp => ?_)
  obtain ⟨r2, rfl, rfl, h⟩ := hp
  refine xw_X (sb_of [2, 0, 1, 3] rfl rfl) (show ww x (W_X5_presentPrice (xg x) a0 a1 a2 a3 a4 v0 v1) [(2, .int r1), (0, .ref a0), (1, .int p1)] 0 0 17 [.int r2, .int 10, .int 0] from ?_)
  refine xw_isub hf (pc := 17) dX5_presentPrice_17 ?_
  refine xw_max hf mw_X5_presentPrice_1 mw_X5_presentPrice_2 mw_X5_presentPrice_3 mw_X5_presentPrice_4 ⟨⟨(Nat.le_of_ble_eq_true rfl), (Nat.le_of_ble_eq_true rfl)⟩, (Nat.le_of_ble_eq_true rfl), (Nat.le_of_ble_eq_true rfl)⟩ (Nat.le_of_ble_eq_true rfl) dX5_presentPrice_18 ?_
  refine xw_topi (fun y3 ey3 => ?_)
  have h := h y3 ey3
  refine xw_istore_n hf (pc := 21) dX5_presentPrice_21 rfl [(3, .int y3), (2, .int r1), (0, .ref a0), (1, .int p1)] hn (by decide) rfl ?_
  refine xw_iload_n hf (pc := 22) dX5_presentPrice_22 rfl 1 rfl ?_
  refine xw_iload_n hf (pc := 23) dX5_presentPrice_23 rfl 1 rfl ?_
  refine xw_iload_n hf (pc := 24) dX5_presentPrice_24 rfl 0 rfl ?_
  refine xw_imul hf (pc := 25) dX5_presentPrice_25 ?_
  refine xw_bipush hf (pc := 26) dX5_presentPrice_26 (v := 10) (by decide) ?_
  refine xw_idiv hf (pc := 28) dX5_presentPrice_28 (by decide) ?_
  refine xw_iadd hf (pc := 29) dX5_presentPrice_29 ?_
  exact xw_iret hf (pc := 30) dX5_presentPrice_30 hr (Nat.le_of_ble_eq_true rfl) (Nat.le_of_ble_eq_true rfl) ⟨_, rfl, rfl, h⟩
abbrev W_X5_ounces (g : Gx) (a0 a1 a2 a3 : Nat) (v0 : Nat → Int32) : va_W := [(a0, .inr (6, [.ref a2, .ref a3, .ref a1])), (a1, .inl (gI g, 32, .inl v0))]
abbrev rm_X5_ounces : Room := { frames := 1, cells := 0, slots := 0, locals := 22 }
theorem mw_X5_ounces_0 : (Cond.fieldLink RX5 22 "AnagramButcher$Stock" "weights" "[I" : Cond) ∈ wsX5_ounces := (List.mem_cons_of_mem _ (List.mem_append_left _ (List.mem_of_getElem? (i := 0) rfl)))
theorem mi_X5_ounces_X5 : ∀ w ∈ wsX50, w ∈ wsX5_ounces := fun _ h => (List.mem_cons_of_mem _ (List.mem_append_right _ h))
set_option maxHeartbeats 4000000 in
set_option maxRecDepth 100000 in
theorem w_X5_ounces_L11 {x : Cx} (hf : fx x (rm_X5_ounces) RX5 cX5_ounces wsX5_ounces) (hn : xn x = 6) {k0 n0 : Nat} (hk : k0 ≤ (rm_X5_ounces).cells ∧ n0 ≤ (rm_X5_ounces).slots) (a0 a1 a2 a3 : Nat) (z1 : Int64) (z3 : Int32) (v0 : Nat → Int32) {K39 : Int32 → Prop}
    (n : Nat) (z4 : Int32) (z5 : Int32) (h : P_X5_ounces_L11 z1 z3 v0 K39 n z4 z5)
    (hK39 : ∀ (y4 : Int32), K39 y4 → ww x (W_X5_ounces (xg x) a0 a1 a2 a3 v0) [(4, .int y4)] k0 n0 39 []) :
    ww x (W_X5_ounces (xg x) a0 a1 a2 a3 v0) [(0, .ref a0), (1, .long z1), (3, .int z3), (4, .int z4), (5, .int z5)] k0 n0 11 [] := by
  induction n generalizing z4 z5 with
  | zero => exact h.elim
  | succ n ih =>
    unfold P_X5_ounces_L11 at h
    refine xw_iload hf (pc := 11) dX5_ounces_11 4 rfl ?_
    refine xw_iload_n hf (pc := 13) dX5_ounces_13 rfl 2 rfl ?_
    refine xw_icmp_ge hf (pc := 14) dX5_ounces_14 (tgt := 39) rfl ⟨fun c => ?_, fun c => ?_⟩
    · have h := h.1 c
      refine xw_L [3] rfl ?_
      exact hK39 _ h
    · have h := h.2 c
      refine xw_iload hf (pc := 17) dX5_ounces_17 3 rfl ?_
      refine xw_aload_n hf (pc := 19) dX5_ounces_19 rfl 0 rfl ?_
      refine xw_get hf (pc := 20) dX5_ounces_20 (T := TX5) mi_X5_ounces_X5 rfl 0 rfl 2 (by decide) rfl mw_X5_ounces_0 rfl ?_
      refine xw_lload_n hf (pc := 23) dX5_ounces_23 rfl 1 rfl ?_
      refine xw_iload hf (pc := 24) dX5_ounces_24 4 rfl ?_
      refine xw_callS hf (pc := 26) (nA := 2) (Xr := W_X5_ounces (xg x) a0 a1 a2 a3 v0) (rest := [.ref a1, .int z4]) (c_X7_letter (xl x) (xg x) z1 z5 h) gX5_ounces_X7_letter (by rfl) rfl (by decide +kernel) ⟨⟨(Nat.le_of_ble_eq_true rfl), (Nat.le_of_ble_eq_true rfl)⟩, hk.1, hk.2⟩ (Nat.le_of_ble_eq_true rfl) (sb_rf _) rfl dX5_ounces_26 (fun v X1 hp => ?_)
      obtain ⟨r2, rfl, rfl, h⟩ := hp
      show ww x (W_X5_ounces (xg x) a0 a1 a2 a3 v0) [(0, .ref a0), (1, .long z1), (3, .int z3), (4, .int z4), (5, .int z5)] k0 n0 29 [.int r2, .ref a1, .int z4]
      refine xw_iald hf (pc := 29) dX5_ounces_29 1 rfl h.1 ?_
      have h := h.2
      refine xw_iadd hf (pc := 30) dX5_ounces_30 ?_
      refine xw_topi (fun y3 ey3 => ?_)
      have h := h y3 ey3
      refine xw_istore hf (pc := 31) dX5_ounces_31 [(4, .int y3), (0, .ref a0), (1, .long z1), (3, .int z3), (5, .int z5)] hn (by decide) rfl ?_
      refine xw_iinc hf (pc := 33) dX5_ounces_33 (v := z5 + 1) 4 rfl rfl [(5, .int (z5 + 1)), (4, .int y3), (0, .ref a0), (1, .long z1), (3, .int z3)] hn (by decide) rfl ?_
      refine xw_goto hf (pc := 36) dX5_ounces_36 (tgt := 11) rfl ?_
      refine xw_L [2, 3, 4, 1, 0] rfl ?_
      exact ih _ _ h
set_option maxHeartbeats 4000000 in
set_option maxRecDepth 100000 in
theorem c_X5_ounces (l : Launch) (g : Gx) (a0 a1 a2 a3 : Nat) (v0 : Nat → Int32) (p1 : Int64) {post : Int32 → Prop} (h : P_X5_ounces post p1 v0) : cm l g yX5_ounces wsX5_ounces (rm_X5_ounces) [.ref a0, .long p1] (W_X5_ounces g a0 a1 a2 a3 v0) (fun v X1 => ∃ (r : Int32), v = some (.int r) ∧ X1 = W_X5_ounces g a0 a1 a2 a3 v0 ∧ post r) := by
  refine cm_of (cc := cX5_ounces) (nL := 6) (ret := (some .int)) (by decide +kernel) rfl (Nat.le_of_ble_eq_true rfl) ?_
  intro x hf hl hg hn hi hr
  subst hl
  subst hg
  show ww x (W_X5_ounces (xg x) a0 a1 a2 a3 v0) [(0, .ref a0), (1, .long p1)] 0 0 0 []
  unfold P_X5_ounces at h
  refine xw_lload_n hf (pc := 0) dX5_ounces_0 rfl 1 rfl ?_
  refine xw_callS hf (pc := 1) (nA := 1) (Xr := W_X5_ounces (xg x) a0 a1 a2 a3 v0) (rest := []) (c_X7_lengthOf (xl x) (xg x) p1 h) gX5_ounces_X7_lengthOf (by rfl) rfl (by decide +kernel) ⟨⟨(Nat.le_of_ble_eq_true rfl), (Nat.le_of_ble_eq_true rfl)⟩, (Nat.le_of_ble_eq_true rfl), (Nat.le_of_ble_eq_true rfl)⟩ (Nat.le_of_ble_eq_true rfl) (sb_rf _) rfl dX5_ounces_1 (fun v X1 hp => ?_)
  obtain ⟨r1, rfl, rfl, h⟩ := hp
  show ww x (W_X5_ounces (xg x) a0 a1 a2 a3 v0) [(0, .ref a0), (1, .long p1)] 0 0 4 [.int r1]
  refine xw_istore_n hf (pc := 4) dX5_ounces_4 rfl [(3, .int r1), (0, .ref a0), (1, .long p1)] hn (by decide) rfl ?_
  refine xw_iconst hf (pc := 5) dX5_ounces_5 (v := 0) (by decide) ?_
  refine xw_istore hf (pc := 6) dX5_ounces_6 [(4, .int 0), (3, .int r1), (0, .ref a0), (1, .long p1)] hn (by decide) rfl ?_
  refine xw_iconst hf (pc := 8) dX5_ounces_8 (v := 0) (by decide) ?_
  refine xw_istore hf (pc := 9) dX5_ounces_9 [(5, .int 0), (4, .int 0), (3, .int r1), (0, .ref a0), (1, .long p1)] hn (by decide) rfl ?_
  refine xw_L [3, 4, 2, 1, 0] rfl ?_
  refine w_X5_ounces_L11 hf hn ⟨(Nat.le_of_ble_eq_true rfl), (Nat.le_of_ble_eq_true rfl)⟩ a0 a1 a2 a3 p1 r1 v0 FU _ _ h (fun x4 h => ?_)
  refine xw_iload hf (pc := 39) dX5_ounces_39 0 rfl ?_
  exact xw_iret hf (pc := 41) dX5_ounces_41 hr (Nat.le_of_ble_eq_true rfl) (Nat.le_of_ble_eq_true rfl) ⟨_, rfl, rfl, h⟩
abbrev W_X5_weigh (g : Gx) (a0 a1 a2 a3 a4 : Nat) (v0 : Nat → Int32) (v1 : Nat → Int32) (v2 : Nat → Int32) : va_W := [(a0, .inr (6, [.ref a1, .ref a3, .ref a4])), (a1, .inr (3, [.ref a2])), (a2, .inl (gI g, 32, .inl v0)), (a3, .inl (gI g, 32, .inl v1)), (a4, .inl (gI g, 32, .inl v2))]
abbrev rm_X5_weigh : Room := { frames := 2, cells := 0, slots := 0, locals := 47 }
theorem mw_X5_weigh_0 : (Cond.fieldLink RX5 22 "AnagramButcher$Stock" "weights" "[I" : Cond) ∈ wsX5_weigh := (List.mem_cons_of_mem _ (List.mem_append_left _ (List.mem_append_left _ (List.mem_append_left _ (List.mem_of_getElem? (l := wsX5_weigh_r1) (i := 0) rfl)))))
theorem mw_X5_weigh_1 : (Cond.fieldLink RX5 10 "AnagramButcher$Stock" "pieces" "LAnagramButcher$Pile;" : Cond) ∈ wsX5_weigh := (List.mem_cons_of_mem _ (List.mem_append_left _ (List.mem_append_left _ (List.mem_append_left _ (List.mem_of_getElem? (l := wsX5_weigh_r1) (i := 1) rfl)))))
theorem mi_X5_weigh_X5 : ∀ w ∈ wsX50, w ∈ wsX5_weigh := fun _ h => (List.mem_cons_of_mem _ (List.mem_append_left _ (List.mem_append_right _ h)))
set_option maxHeartbeats 4000000 in
set_option maxRecDepth 100000 in
theorem w_X5_weigh_L10 {x : Cx} (hf : fx x (rm_X5_weigh) RX5 cX5_weigh wsX5_weigh) (hn : xn x = 6) {k0 n0 : Nat} (hk : k0 ≤ (rm_X5_weigh).cells ∧ n0 ≤ (rm_X5_weigh).slots) (a0 a1 a2 a3 a4 : Nat) (z1 : Int64) (v1 : Nat → Int32) (v2 : Nat → Int32) {K55 : Int32 → (Nat → Int32) → Prop}
    (n : Nat) (z3 : Int32) (z4 : Int32) (v0 : Nat → Int32) (h : P_X5_weigh_L10 z1 v1 v2 K55 n z3 z4 v0)
    (hK55 : ∀ (y3 : Int32), ∀ (uv0 : Nat → Int32), K55 y3 uv0 → ww x (W_X5_weigh (xg x) a0 a1 a2 a3 a4 uv0 v1 v2) [(0, .ref a0), (1, .long z1), (3, .int y3)] k0 n0 55 []) :
    ww x (W_X5_weigh (xg x) a0 a1 a2 a3 a4 v0 v1 v2) [(0, .ref a0), (1, .long z1), (3, .int z3), (4, .int z4)] k0 n0 10 [] := by
  induction n generalizing z3 z4 v0 with
  | zero => exact h.elim
  | succ n ih =>
    unfold P_X5_weigh_L10 at h
    refine xw_iload hf (pc := 10) dX5_weigh_10 3 rfl ?_
    refine xw_if_lt hf (pc := 12) dX5_weigh_12 (c := z4 < 0) Iff.rfl (tgt := 55) rfl ⟨fun c => ?_, fun c => ?_⟩
    · have h := h.1 c
      refine xw_L [0, 1, 2] rfl ?_
      exact hK55 _ _ h
    · have h := h.2 c
      refine xw_lload_n hf (pc := 15) dX5_weigh_15 rfl 1 rfl ?_
      refine xw_iload hf (pc := 16) dX5_weigh_16 3 rfl ?_
      refine xw_callS hf (pc := 18) (nA := 2) (Xr := W_X5_weigh (xg x) a0 a1 a2 a3 a4 v0 v1 v2) (rest := []) (c_X7_letter (xl x) (xg x) z1 z4 h) gX5_weigh_X7_letter (by rfl) rfl (by decide +kernel) ⟨⟨(Nat.le_of_ble_eq_true rfl), (Nat.le_of_ble_eq_true rfl)⟩, hk.1, hk.2⟩ (Nat.le_of_ble_eq_true rfl) (sb_rf _) rfl dX5_weigh_18 (fun v X1 hp => ?_)
      obtain ⟨r3, rfl, rfl, h⟩ := hp
      show ww x (W_X5_weigh (xg x) a0 a1 a2 a3 a4 v0 v1 v2) [(0, .ref a0), (1, .long z1), (3, .int z3), (4, .int z4)] k0 n0 21 [.int r3]
      refine xw_istore hf (pc := 21) dX5_weigh_21 [(5, .int r3), (0, .ref a0), (1, .long z1), (3, .int z3), (4, .int z4)] hn (by decide) rfl ?_
      refine xw_iload_n hf (pc := 23) dX5_weigh_23 rfl 3 rfl ?_
      refine xw_aload_n hf (pc := 24) dX5_weigh_24 rfl 1 rfl ?_
      refine xw_iload hf (pc := 25) dX5_weigh_25 0 rfl ?_
      refine xw_callV hf (pc := 27) (nA := 1) (Xr := [(a4, .inl (gI (xg x), 32, .inl v2))]) (rest := [.int z3]) (T := TX5) (c_X5_presentPrice (xl x) (xg x) a0 a1 a2 a3 a4 v0 v1 r3 h) gX5_weigh_X5_presentPrice (by rfl) rfl rfl (by decide +kernel) ⟨⟨(Nat.le_of_ble_eq_true rfl), (Nat.le_of_ble_eq_true rfl)⟩, hk.1, hk.2⟩ (Nat.le_of_ble_eq_true rfl) rfl rfl (sb_of [0, 1, 2, 3, 4] rfl rfl) rfl dX5_weigh_27 (fun v X1 hp => ?_)
      obtain ⟨r4, rfl, rfl, h⟩ := hp
      refine xw_X (sb_of [0, 1, 2, 3, 4] rfl rfl) (show ww x (W_X5_weigh (xg x) a0 a1 a2 a3 a4 v0 v1 v2) [(5, .int r3), (0, .ref a0), (1, .long z1), (3, .int z3), (4, .int z4)] k0 n0 30 [.int r4, .int z3] from ?_)
      refine xw_aload_n hf (pc := 30) dX5_weigh_30 rfl 1 rfl ?_
      refine xw_get hf (pc := 31) dX5_weigh_31 (T := TX5) mi_X5_weigh_X5 rfl 0 rfl 2 (by decide) rfl mw_X5_weigh_0 rfl ?_
      refine xw_iload hf (pc := 34) dX5_weigh_34 0 rfl ?_
      refine xw_iald hf (pc := 36) dX5_weigh_36 4 rfl h.1 ?_
      have h := h.2
      refine xw_imul hf (pc := 37) dX5_weigh_37 ?_
      refine xw_iadd hf (pc := 38) dX5_weigh_38 ?_
      refine xw_topi (fun y5 ey5 => ?_)
      have h := h y5 ey5
      refine xw_istore_n hf (pc := 39) dX5_weigh_39 rfl [(3, .int y5), (5, .int r3), (0, .ref a0), (1, .long z1), (4, .int z4)] hn (by decide) rfl ?_
      refine xw_aload_n hf (pc := 40) dX5_weigh_40 rfl 2 rfl ?_
      refine xw_get hf (pc := 41) dX5_weigh_41 (T := TX5) mi_X5_weigh_X5 rfl 0 rfl 0 (by decide) rfl mw_X5_weigh_1 rfl ?_
      refine xw_iload hf (pc := 44) dX5_weigh_44 1 rfl ?_
      refine xw_callV hf (pc := 46) (nA := 1) (Xr := [(a0, .inr (6, [.ref a1, .ref a3, .ref a4])), (a3, .inl (gI (xg x), 32, .inl v1)), (a4, .inl (gI (xg x), 32, .inl v2))]) (rest := []) (T := TX2) (c_X2_takeOne (xl x) (xg x) a1 a2 v0 r3 h) gX5_weigh_X2_takeOne (by rfl) rfl rfl (by decide +kernel) ⟨⟨(Nat.le_of_ble_eq_true rfl), (Nat.le_of_ble_eq_true rfl)⟩, hk.1, hk.2⟩ (Nat.le_of_ble_eq_true rfl) rfl rfl (sb_of [1, 2, 0, 3, 4] rfl rfl) rfl dX5_weigh_46 (fun v X1 hp => ?_)
      obtain ⟨w7, rfl, rfl, h⟩ := hp
      refine xw_X (sb_of [2, 0, 1, 3, 4] rfl rfl) (show ww x (W_X5_weigh (xg x) a0 a1 a2 a3 a4 w7 v1 v2) [(3, .int y5), (5, .int r3), (0, .ref a0), (1, .long z1), (4, .int z4)] k0 n0 49 [] from ?_)
      refine xw_iinc hf (pc := 49) dX5_weigh_49 (v := z4 + (-1)) 4 rfl rfl [(4, .int (z4 + (-1))), (3, .int y5), (5, .int r3), (0, .ref a0), (1, .long z1)] hn (by decide) rfl ?_
      refine xw_goto hf (pc := 52) dX5_weigh_52 (tgt := 10) rfl ?_
      refine xw_L [3, 4, 1, 0] rfl ?_
      exact ih _ _ _ h
set_option maxHeartbeats 4000000 in
set_option maxRecDepth 100000 in
theorem c_X5_weigh (l : Launch) (g : Gx) (a0 a1 a2 a3 a4 : Nat) (v0 : Nat → Int32) (v1 : Nat → Int32) (v2 : Nat → Int32) (p1 : Int64) {post : Int32 → (Nat → Int32) → Prop} (h : P_X5_weigh post p1 v0 v1 v2) : cm l g yX5_weigh wsX5_weigh (rm_X5_weigh) [.ref a0, .long p1] (W_X5_weigh g a0 a1 a2 a3 a4 v0 v1 v2) (fun v X1 => ∃ (r : Int32) (uv0 : Nat → Int32), v = some (.int r) ∧ X1 = W_X5_weigh g a0 a1 a2 a3 a4 uv0 v1 v2 ∧ post r uv0) := by
  refine cm_of (cc := cX5_weigh) (nL := 6) (ret := (some .int)) (by decide +kernel) rfl (Nat.le_of_ble_eq_true rfl) ?_
  intro x hf hl hg hn hi hr
  subst hl
  subst hg
  show ww x (W_X5_weigh (xg x) a0 a1 a2 a3 a4 v0 v1 v2) [(0, .ref a0), (1, .long p1)] 0 0 0 []
  unfold P_X5_weigh at h
  refine xw_iconst hf (pc := 0) dX5_weigh_0 (v := 0) (by decide) ?_
  refine xw_istore_n hf (pc := 1) dX5_weigh_1 rfl [(3, .int 0), (0, .ref a0), (1, .long p1)] hn (by decide) rfl ?_
  refine xw_lload_n hf (pc := 2) dX5_weigh_2 rfl 2 rfl ?_
  refine xw_callS hf (pc := 3) (nA := 1) (Xr := W_X5_weigh (xg x) a0 a1 a2 a3 a4 v0 v1 v2) (rest := []) (c_X7_lengthOf (xl x) (xg x) p1 h) gX5_weigh_X7_lengthOf (by rfl) rfl (by decide +kernel) ⟨⟨(Nat.le_of_ble_eq_true rfl), (Nat.le_of_ble_eq_true rfl)⟩, (Nat.le_of_ble_eq_true rfl), (Nat.le_of_ble_eq_true rfl)⟩ (Nat.le_of_ble_eq_true rfl) (sb_rf _) rfl dX5_weigh_3 (fun v X1 hp => ?_)
  obtain ⟨r1, rfl, rfl, h⟩ := hp
  show ww x (W_X5_weigh (xg x) a0 a1 a2 a3 a4 v0 v1 v2) [(3, .int 0), (0, .ref a0), (1, .long p1)] 0 0 6 [.int r1]
  refine xw_iconst hf (pc := 6) dX5_weigh_6 (v := 1) (by decide) ?_
  refine xw_isub hf (pc := 7) dX5_weigh_7 ?_
  refine xw_topi (fun y2 ey2 => ?_)
  have h := h y2 ey2
  refine xw_istore hf (pc := 8) dX5_weigh_8 [(4, .int y2), (3, .int 0), (0, .ref a0), (1, .long p1)] hn (by decide) rfl ?_
  refine xw_L [2, 3, 1, 0] rfl ?_
  refine w_X5_weigh_L10 hf hn ⟨(Nat.le_of_ble_eq_true rfl), (Nat.le_of_ble_eq_true rfl)⟩ a0 a1 a2 a3 a4 p1 v1 v2 FU _ _ _ h (fun x8 w9 h => ?_)
  refine xw_aload_n hf (pc := 55) dX5_weigh_55 rfl 0 rfl ?_
  refine xw_get hf (pc := 56) dX5_weigh_56 (T := TX5) mi_X5_weigh_X5 rfl 0 rfl 0 (by decide) rfl mw_X5_weigh_1 rfl ?_
  refine xw_lload_n hf (pc := 59) dX5_weigh_59 rfl 1 rfl ?_
  refine xw_iconst hf (pc := 60) dX5_weigh_60 (v := 1) (by decide) ?_
  refine xw_callV hf (pc := 61) (nA := 2) (Xr := [(a0, .inr (6, [.ref a1, .ref a3, .ref a4])), (a3, .inl (gI (xg x), 32, .inl v1)), (a4, .inl (gI (xg x), 32, .inl v2))]) (rest := []) (T := TX2) (c_X2_put (xl x) (xg x) a1 a2 w9 p1 1 h) gX5_weigh_X2_put (by rfl) rfl rfl (by decide +kernel) ⟨⟨(Nat.le_of_ble_eq_true rfl), (Nat.le_of_ble_eq_true rfl)⟩, (Nat.le_of_ble_eq_true rfl), (Nat.le_of_ble_eq_true rfl)⟩ (Nat.le_of_ble_eq_true rfl) rfl rfl (sb_of [1, 2, 0, 3, 4] rfl rfl) rfl dX5_weigh_61 (fun v X1 hp => ?_)
  obtain ⟨w11, rfl, rfl, h⟩ := hp
  refine xw_X (sb_of [2, 0, 1, 3, 4] rfl rfl) (show ww x (W_X5_weigh (xg x) a0 a1 a2 a3 a4 w11 v1 v2) [(0, .ref a0), (1, .long p1), (3, .int x8)] 0 0 64 [] from ?_)
  refine xw_iload_n hf (pc := 64) dX5_weigh_64 rfl 2 rfl ?_
  refine xw_bipush hf (pc := 65) dX5_weigh_65 (v := 16) (by decide) ?_
  refine xw_iadd hf (pc := 67) dX5_weigh_67 ?_
  refine xw_iconst hf (pc := 68) dX5_weigh_68 (v := 1) (by decide) ?_
  refine xw_isub hf (pc := 69) dX5_weigh_69 ?_
  refine xw_bipush hf (pc := 70) dX5_weigh_70 (v := 16) (by decide) ?_
  refine xw_idiv hf (pc := 72) dX5_weigh_72 (by decide) ?_
  exact xw_iret hf (pc := 73) dX5_weigh_73 hr (Nat.le_of_ble_eq_true rfl) (Nat.le_of_ble_eq_true rfl) ⟨_, _, rfl, rfl, h⟩
abbrev W_X5_canSell (g : Gx) (a0 a1 a2 a3 a4 : Nat) (v0 : Nat → Int32) (v1 : Nat → Int32) (v2 : Nat → Int32) : va_W := [(a0, .inr (6, [.ref a1, .ref a3, .ref a4])), (a1, .inr (3, [.ref a2])), (a2, .inl (gI g, 32, .inl v0)), (a3, .inl (gI g, 32, .inl v1)), (a4, .inl (gI g, 32, .inl v2))]
abbrev rm_X5_canSell : Room := { frames := 3, cells := 0, slots := 0, locals := 72 }
theorem mw_X5_canSell_0 : (Cond.fieldLink RX5 10 "AnagramButcher$Stock" "pieces" "LAnagramButcher$Pile;" : Cond) ∈ wsX5_canSell := (List.mem_cons_of_mem _ (List.mem_append_left _ (List.mem_append_left _ (List.mem_append_left _ (List.mem_of_getElem? (l := wsX5_canSell_r1) (i := 0) rfl)))))
theorem mi_X5_canSell_X5 : ∀ w ∈ wsX50, w ∈ wsX5_canSell := fun _ h => (List.mem_cons_of_mem _ (List.mem_append_left _ (List.mem_append_right _ h)))
set_option maxHeartbeats 4000000 in
set_option maxRecDepth 100000 in
theorem c_X5_canSell (l : Launch) (g : Gx) (a0 a1 a2 a3 a4 : Nat) (v0 : Nat → Int32) (v1 : Nat → Int32) (v2 : Nat → Int32) (p1 : Int64) (p3 : Int32) {post : Int32 → (Nat → Int32) → Prop} (h : P_X5_canSell post p1 p3 v0 v1 v2) : cm l g yX5_canSell wsX5_canSell (rm_X5_canSell) [.ref a0, .long p1, .int p3] (W_X5_canSell g a0 a1 a2 a3 a4 v0 v1 v2) (fun v X1 => ∃ (r : Int32) (uv0 : Nat → Int32), v = some (.int r) ∧ X1 = W_X5_canSell g a0 a1 a2 a3 a4 uv0 v1 v2 ∧ post r uv0) := by
  refine cm_of (cc := cX5_canSell) (nL := 4) (ret := (some .boolean)) (by decide +kernel) rfl (Nat.le_of_ble_eq_true rfl) ?_
  intro x hf hl hg hn hi hr
  subst hl
  subst hg
  show ww x (W_X5_canSell (xg x) a0 a1 a2 a3 a4 v0 v1 v2) [(0, .ref a0), (1, .long p1), (3, .int p3)] 0 0 0 []
  unfold P_X5_canSell at h
  refine xw_aload_n hf (pc := 0) dX5_canSell_0 rfl 0 rfl ?_
  refine xw_get hf (pc := 1) dX5_canSell_1 (T := TX5) mi_X5_canSell_X5 rfl 0 rfl 0 (by decide) rfl mw_X5_canSell_0 rfl ?_
  refine xw_lload_n hf (pc := 4) dX5_canSell_4 rfl 1 rfl ?_
  refine xw_callV hf (pc := 5) (nA := 1) (Xr := [(a0, .inr (6, [.ref a1, .ref a3, .ref a4])), (a3, .inl (gI (xg x), 32, .inl v1)), (a4, .inl (gI (xg x), 32, .inl v2))]) (rest := []) (T := TX2) (c_X2_holds (xl x) (xg x) a1 a2 v0 p1 h) gX5_canSell_X2_holds (by rfl) rfl rfl (by decide +kernel) ⟨⟨(Nat.le_of_ble_eq_true rfl), (Nat.le_of_ble_eq_true rfl)⟩, (Nat.le_of_ble_eq_true rfl), (Nat.le_of_ble_eq_true rfl)⟩ (Nat.le_of_ble_eq_true rfl) rfl rfl (sb_of [1, 2, 0, 3, 4] rfl rfl) rfl dX5_canSell_5 (fun v X1 hp => ?_)
  obtain ⟨r1, w2, rfl, rfl, h⟩ := hp
  refine xw_X (sb_of [2, 0, 1, 3, 4] rfl rfl) (show ww x (W_X5_canSell (xg x) a0 a1 a2 a3 a4 w2 v1 v2) [(0, .ref a0), (1, .long p1), (3, .int p3)] 0 0 8 [.int r1] from ?_)
  refine xw_if_eq hf (pc := 8) dX5_canSell_8 (c := r1 = 0) Iff.rfl (tgt := 24) rfl ⟨fun c => ?_, fun c => ?_⟩
  · have h := h.1 c
    refine xw_iconst hf (pc := 24) dX5_canSell_24 (v := 0) (by decide) ?_
    exact xw_zret hf (pc := 25) dX5_canSell_25 hr (Nat.le_of_ble_eq_true rfl) (Nat.le_of_ble_eq_true rfl) rfl ⟨_, _, rfl, rfl, h⟩
  · have h := h.2 c
    refine xw_aload_n hf (pc := 11) dX5_canSell_11 rfl 0 rfl ?_
    refine xw_lload_n hf (pc := 12) dX5_canSell_12 rfl 1 rfl ?_
    refine xw_callV hf (pc := 13) (nA := 1) (Xr := []) (rest := []) (T := TX5) (c_X5_weigh (xl x) (xg x) a0 a1 a2 a3 a4 w2 v1 v2 p1 h) gX5_canSell_X5_weigh (by rfl) rfl rfl (by decide +kernel) ⟨⟨(Nat.le_of_ble_eq_true rfl), (Nat.le_of_ble_eq_true rfl)⟩, (Nat.le_of_ble_eq_true rfl), (Nat.le_of_ble_eq_true rfl)⟩ (Nat.le_of_ble_eq_true rfl) rfl rfl (sb_of [0, 1, 2, 3, 4] rfl rfl) rfl dX5_canSell_13 (fun v X1 hp => ?_)
    obtain ⟨r3, w4, rfl, rfl, h⟩ := hp
    refine xw_X (sb_of [0, 1, 2, 3, 4] rfl rfl) (show ww x (W_X5_canSell (xg x) a0 a1 a2 a3 a4 w4 v1 v2) [(0, .ref a0), (1, .long p1), (3, .int p3)] 0 0 16 [.int r3] from ?_)
    refine xw_iload_n hf (pc := 16) dX5_canSell_16 rfl 2 rfl ?_
    refine xw_icmp_gt hf (pc := 17) dX5_canSell_17 (tgt := 24) rfl ⟨fun c => ?_, fun c => ?_⟩
    · have h := h.1 c
      refine xw_iconst hf (pc := 24) dX5_canSell_24 (v := 0) (by decide) ?_
      exact xw_zret hf (pc := 25) dX5_canSell_25 hr (Nat.le_of_ble_eq_true rfl) (Nat.le_of_ble_eq_true rfl) rfl ⟨_, _, rfl, rfl, h⟩
    · have h := h.2 c
      refine xw_iconst hf (pc := 20) dX5_canSell_20 (v := 1) (by decide) ?_
      refine xw_goto hf (pc := 21) dX5_canSell_21 (tgt := 25) rfl ?_
      exact xw_zret hf (pc := 25) dX5_canSell_25 hr (Nat.le_of_ble_eq_true rfl) (Nat.le_of_ble_eq_true rfl) rfl ⟨_, _, rfl, rfl, h⟩
abbrev W_X5_hasRoomFor (g : Gx) (a0 a1 a2 a3 a4 a5 a6 : Nat) (v0 : Nat → Int32) (v1 : Nat → Int32) : va_W := [(a0, .inr (6, [.ref a1, .ref a5, .ref a6])), (a1, .inr (3, [.ref a2])), (a2, .inl (gI g, 32, .inl v0)), (a3, .inr (3, [.ref a4])), (a4, .inl (gI g, 32, .inl v1))]
abbrev rm_X5_hasRoomFor : Room := { frames := 1, cells := 0, slots := 0, locals := 21 }
theorem mw_X5_hasRoomFor_0 : (Cond.fieldLink RX5 10 "AnagramButcher$Stock" "pieces" "LAnagramButcher$Pile;" : Cond) ∈ wsX5_hasRoomFor := (List.mem_cons_of_mem _ (List.mem_append_left _ (List.mem_append_left _ (List.mem_of_getElem? (i := 0) rfl))))
theorem mi_X5_hasRoomFor_X5 : ∀ w ∈ wsX50, w ∈ wsX5_hasRoomFor := fun _ h => (List.mem_cons_of_mem _ (List.mem_append_left _ (List.mem_append_right _ h)))
set_option maxHeartbeats 4000000 in
set_option maxRecDepth 100000 in
theorem w_X5_hasRoomFor_L2 {x : Cx} (hf : fx x (rm_X5_hasRoomFor) RX5 cX5_hasRoomFor wsX5_hasRoomFor) (hn : xn x = 3) {k0 n0 : Nat} (hk : k0 ≤ (rm_X5_hasRoomFor).cells ∧ n0 ≤ (rm_X5_hasRoomFor).slots) (a0 a1 a2 a3 a4 a5 a6 : Nat) (v0 : Nat → Int32) (v1 : Nat → Int32) {K28 : Prop} {K36 : Prop}
    (n : Nat) (z2 : Int32) (h : P_X5_hasRoomFor_L2 v0 v1 K28 K36 n z2)
    (hK28 : K28 → ww x (W_X5_hasRoomFor (xg x) a0 a1 a2 a3 a4 a5 a6 v0 v1) [] k0 n0 28 [])
    (hK36 : K36 → ww x (W_X5_hasRoomFor (xg x) a0 a1 a2 a3 a4 a5 a6 v0 v1) [] k0 n0 36 []) :
    ww x (W_X5_hasRoomFor (xg x) a0 a1 a2 a3 a4 a5 a6 v0 v1) [(0, .ref a0), (1, .ref a3), (2, .int z2)] k0 n0 2 [] := by
  induction n generalizing z2 with
  | zero => exact h.elim
  | succ n ih =>
    unfold P_X5_hasRoomFor_L2 at h
    refine xw_iload_n hf (pc := 2) dX5_hasRoomFor_2 rfl 2 rfl ?_
    refine xw_bipush hf (pc := 3) dX5_hasRoomFor_3 (v := 26) (by decide) ?_
    refine xw_icmp_gt hf (pc := 5) dX5_hasRoomFor_5 (tgt := 36) rfl ⟨fun c => ?_, fun c => ?_⟩
    · have h := h.1 c
      refine xw_L [] rfl ?_
      exact hK36 h
    · have h := h.2 c
      refine xw_aload_n hf (pc := 8) dX5_hasRoomFor_8 rfl 0 rfl ?_
      refine xw_get hf (pc := 9) dX5_hasRoomFor_9 (T := TX5) mi_X5_hasRoomFor_X5 rfl 0 rfl 0 (by decide) rfl mw_X5_hasRoomFor_0 rfl ?_
      refine xw_iload_n hf (pc := 12) dX5_hasRoomFor_12 rfl 2 rfl ?_
      refine xw_callV hf (pc := 13) (nA := 1) (Xr := [(a0, .inr (6, [.ref a1, .ref a5, .ref a6])), (a3, .inr (3, [.ref a4])), (a4, .inl (gI (xg x), 32, .inl v1))]) (rest := []) (T := TX2) (c_X2_count (xl x) (xg x) a1 a2 v0 z2 h) gX5_hasRoomFor_X2_count (by rfl) rfl rfl (by decide +kernel) ⟨⟨(Nat.le_of_ble_eq_true rfl), (Nat.le_of_ble_eq_true rfl)⟩, hk.1, hk.2⟩ (Nat.le_of_ble_eq_true rfl) rfl rfl (sb_of [1, 2, 0, 3, 4] rfl rfl) rfl dX5_hasRoomFor_13 (fun v X1 hp => ?_)
      obtain ⟨r1, rfl, rfl, h⟩ := hp
      refine xw_X (sb_of [2, 0, 1, 3, 4] rfl rfl) (show ww x (W_X5_hasRoomFor (xg x) a0 a1 a2 a3 a4 a5 a6 v0 v1) [(0, .ref a0), (1, .ref a3), (2, .int z2)] k0 n0 16 [.int r1] from ?_)
      refine xw_aload_n hf (pc := 16) dX5_hasRoomFor_16 rfl 1 rfl ?_
      refine xw_iload_n hf (pc := 17) dX5_hasRoomFor_17 rfl 2 rfl ?_
      refine xw_callV hf (pc := 18) (nA := 1) (Xr := [(a0, .inr (6, [.ref a1, .ref a5, .ref a6])), (a1, .inr (3, [.ref a2])), (a2, .inl (gI (xg x), 32, .inl v0))]) (rest := [.int r1]) (T := TX2) (c_X2_count (xl x) (xg x) a3 a4 v1 z2 h) gX5_hasRoomFor_X2_count (by rfl) rfl rfl (by decide +kernel) ⟨⟨(Nat.le_of_ble_eq_true rfl), (Nat.le_of_ble_eq_true rfl)⟩, hk.1, hk.2⟩ (Nat.le_of_ble_eq_true rfl) rfl rfl (sb_of [3, 4, 0, 1, 2] rfl rfl) rfl dX5_hasRoomFor_18 (fun v X1 hp => ?_)
      obtain ⟨r2, rfl, rfl, h⟩ := hp
      refine xw_X (sb_of [2, 3, 4, 0, 1] rfl rfl) (show ww x (W_X5_hasRoomFor (xg x) a0 a1 a2 a3 a4 a5 a6 v0 v1) [(0, .ref a0), (1, .ref a3), (2, .int z2)] k0 n0 21 [.int r2, .int r1] from ?_)
      refine xw_iadd hf (pc := 21) dX5_hasRoomFor_21 ?_
      refine xw_sipush hf (pc := 22) dX5_hasRoomFor_22 (v := 999) (by decide) ?_
      refine xw_icmp_le hf (pc := 25) dX5_hasRoomFor_25 (tgt := 30) rfl ⟨fun c => ?_, fun c => ?_⟩
      · have h := h.1 c
        refine xw_iinc hf (pc := 30) dX5_hasRoomFor_30 (v := z2 + 1) 2 rfl rfl [(2, .int (z2 + 1)), (0, .ref a0), (1, .ref a3)] hn (by decide) rfl ?_
        refine xw_goto hf (pc := 33) dX5_hasRoomFor_33 (tgt := 2) rfl ?_
        refine xw_L [1, 2, 0] rfl ?_
        exact ih _ h
      · have h := h.2 c
        refine xw_L [] rfl ?_
        exact hK28 h
set_option maxHeartbeats 4000000 in
set_option maxRecDepth 100000 in
theorem c_X5_hasRoomFor (l : Launch) (g : Gx) (a0 a1 a2 a3 a4 a5 a6 : Nat) (v0 : Nat → Int32) (v1 : Nat → Int32) {post : Int32 → Prop} (h : P_X5_hasRoomFor post v0 v1) : cm l g yX5_hasRoomFor wsX5_hasRoomFor (rm_X5_hasRoomFor) [.ref a0, .ref a3] (W_X5_hasRoomFor g a0 a1 a2 a3 a4 a5 a6 v0 v1) (fun v X1 => ∃ (r : Int32), v = some (.int r) ∧ X1 = W_X5_hasRoomFor g a0 a1 a2 a3 a4 a5 a6 v0 v1 ∧ post r) := by
  refine cm_of (cc := cX5_hasRoomFor) (nL := 3) (ret := (some .boolean)) (by decide +kernel) rfl (Nat.le_of_ble_eq_true rfl) ?_
  intro x hf hl hg hn hi hr
  subst hl
  subst hg
  show ww x (W_X5_hasRoomFor (xg x) a0 a1 a2 a3 a4 a5 a6 v0 v1) [(0, .ref a0), (1, .ref a3)] 0 0 0 []
  unfold P_X5_hasRoomFor at h
  refine xw_iconst hf (pc := 0) dX5_hasRoomFor_0 (v := 1) (by decide) ?_
  refine xw_istore_n hf (pc := 1) dX5_hasRoomFor_1 rfl [(2, .int 1), (0, .ref a0), (1, .ref a3)] hn (by decide) rfl ?_
  refine xw_L [1, 2, 0] rfl ?_
  refine w_X5_hasRoomFor_L2 hf hn ⟨(Nat.le_of_ble_eq_true rfl), (Nat.le_of_ble_eq_true rfl)⟩ a0 a1 a2 a3 a4 a5 a6 v0 v1 FU _ h (fun h => ?_) (fun h => ?_)
  · refine xw_iconst hf (pc := 28) dX5_hasRoomFor_28 (v := 0) (by decide) ?_
    exact xw_zret hf (pc := 29) dX5_hasRoomFor_29 hr (Nat.le_of_ble_eq_true rfl) (Nat.le_of_ble_eq_true rfl) rfl ⟨_, rfl, rfl, h⟩
  · refine xw_iconst hf (pc := 36) dX5_hasRoomFor_36 (v := 1) (by decide) ?_
    exact xw_zret hf (pc := 37) dX5_hasRoomFor_37 hr (Nat.le_of_ble_eq_true rfl) (Nat.le_of_ble_eq_true rfl) rfl ⟨_, rfl, rfl, h⟩
