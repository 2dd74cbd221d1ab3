abbrev W_X9_receiptWord (g : Gx) (a0 a1 a2 a3 a4 a5 a6 a7 a8 a9 a10 a11 a12 : Nat) (v0 : Int32) (v1 : Int32) (v2 : Int32) (v3 : Int32) (v4 : Int32) (v5 : Int32) (v6 : Nat) (v7 : Nat) (v8 : Nat → Int64) : va_W := [(a0, .inr (9, [.int v0, .ref a1, .int v1, .ref a2, .ref a3, .ref a4, .ref a5, .ref v6, .ref a6, .ref a7, .int v2, .int v3, .ref a8, .int v4, .ref a9, .ref a10, .ref a11, .ref a12, .int v5])), (v6, .inl (gJ g, v7, .inr (.inl v8)))]
abbrev rm_X9_receiptWord : Room := { frames := 2, cells := 0, slots := 0, locals := 43 }
theorem mw_X9_receiptWord_0 : (Cond.fieldLink RX9 26 "AnagramButcherModel" "receiptWords" "[J" : Cond) ∈ wsX9_receiptWord := (List.mem_cons_of_mem _ (List.mem_append_left _ (List.mem_of_getElem? (i := 0) rfl)))
theorem mi_X9_receiptWord_X9 : ∀ w ∈ wsX90, w ∈ wsX9_receiptWord := fun _ h => (List.mem_cons_of_mem _ (List.mem_append_right _ h))
set_option maxHeartbeats 4000000 in
set_option maxRecDepth 100000 in
theorem c_X9_receiptWord (l : Launch) (g : Gx) (a0 a1 a2 a3 a4 a5 a6 a7 a8 a9 a10 a11 a12 : Nat) (v0 : Int32) (v1 : Int32) (v2 : Int32) (v3 : Int32) (v4 : Int32) (v5 : Int32) (v6 : Nat) (v7 : Nat) (v8 : Nat → Int64) (p1 : Int32) {post : Int64 → Int32 → Prop} (h : P_X9_receiptWord post p1 v0 v1 v2 v3 v4 v5 v6 v7 v8) : cm l g yX9_receiptWord wsX9_receiptWord (rm_X9_receiptWord) [.ref a0, .int p1] (W_X9_receiptWord g a0 a1 a2 a3 a4 a5 a6 a7 a8 a9 a10 a11 a12 v0 v1 v2 v3 v4 v5 v6 v7 v8) (fun v X1 => ∃ (r : Int64) (uv0 : Int32), v = some (.long r) ∧ X1 = W_X9_receiptWord g a0 a1 a2 a3 a4 a5 a6 a7 a8 a9 a10 a11 a12 uv0 v1 v2 v3 v4 v5 v6 v7 v8 ∧ post r uv0) := by
  refine cm_of (cc := cX9_receiptWord) (nL := 2) (ret := (some .long)) (by decide +kernel) rfl (Nat.le_of_ble_eq_true rfl) ?_
  intro x hf hl hg hn hi hr
  subst hl
  subst hg
  show ww x (W_X9_receiptWord (xg x) a0 a1 a2 a3 a4 a5 a6 a7 a8 a9 a10 a11 a12 v0 v1 v2 v3 v4 v5 v6 v7 v8) [(0, .ref a0), (1, .int p1)] 0 0 0 []
  unfold P_X9_receiptWord at h
  refine xw_aload_n hf (pc := 0) dX9_receiptWord_0 rfl 0 rfl ?_
  refine xw_iload_n hf (pc := 1) dX9_receiptWord_1 rfl 1 rfl ?_
  refine xw_callV hf (pc := 2) (nA := 1) (Xr := [(v6, .inl (gJ (xg x), v7, .inr (.inl v8)))]) (rest := []) (T := TX9) (c_X9_isReceipt (xl x) (xg x) a0 a1 a2 a3 a4 a5 v6 a6 a7 a8 a9 a10 a11 a12 v0 v1 v2 v3 v4 v5 p1 h) gX9_receiptWord_X9_isReceipt (by rfl) rfl rfl (by decide +kernel) ⟨⟨(Nat.le_of_ble_eq_true rfl), (Nat.le_of_ble_eq_true rfl)⟩, (Nat.le_of_ble_eq_true rfl), (Nat.le_of_ble_eq_true rfl)⟩ (Nat.le_of_ble_eq_true rfl) rfl rfl (sb_of [0, 1] rfl rfl) rfl dX9_receiptWord_2 (fun v X1 hp => ?_)
  obtain ⟨r1, w2, rfl, rfl, h⟩ := hp
  refine xw_X (sb_of [0, 1] rfl rfl) (show ww x (W_X9_receiptWord (xg x) a0 a1 a2 a3 a4 a5 a6 a7 a8 a9 a10 a11 a12 w2 v1 v2 v3 v4 v5 v6 v7 v8) [(0, .ref a0), (1, .int p1)] 0 0 5 [.int r1] from ?_)
  refine xw_if_eq hf (pc := 5) dX9_receiptWord_5 (c := r1 = 0) Iff.rfl (tgt := 17) rfl ⟨fun c => ?_, fun c => ?_⟩
  · have h := h.1 c
    refine xw_lconst hf (pc := 17) dX9_receiptWord_17 (v := 0) (by decide) ?_
    exact xw_lret hf (pc := 18) dX9_receiptWord_18 hr (Nat.le_of_ble_eq_true rfl) (Nat.le_of_ble_eq_true rfl) ⟨_, _, rfl, rfl, h⟩
  · have h := h.2 c
    refine xw_aload_n hf (pc := 8) dX9_receiptWord_8 rfl 0 rfl ?_
    refine xw_get hf (pc := 9) dX9_receiptWord_9 (T := TX9) mi_X9_receiptWord_X9 rfl 0 rfl 7 (by decide) rfl mw_X9_receiptWord_0 rfl ?_
    refine xw_iload_n hf (pc := 12) dX9_receiptWord_12 rfl 1 rfl ?_
    refine xw_lald hf (pc := 13) dX9_receiptWord_13 1 rfl h.1 ?_
    have h := h.2
    refine xw_goto hf (pc := 14) dX9_receiptWord_14 (tgt := 18) rfl ?_
    exact xw_lret hf (pc := 18) dX9_receiptWord_18 hr (Nat.le_of_ble_eq_true rfl) (Nat.le_of_ble_eq_true rfl) ⟨_, _, rfl, rfl, h⟩
abbrev W_X9_receiptPrice (g : Gx) (a0 a1 a2 a3 a4 a5 a6 a7 a8 a9 a10 a11 a12 : Nat) (v0 : Int32) (v1 : Int32) (v2 : Int32) (v3 : Int32) (v4 : Int32) (v5 : Int32) (v6 : Nat) (v7 : Nat) (v8 : Nat → Int32) : va_W := [(a0, .inr (9, [.int v0, .ref a1, .int v1, .ref a2, .ref a3, .ref a4, .ref a5, .ref a6, .ref v6, .ref a7, .int v2, .int v3, .ref a8, .int v4, .ref a9, .ref a10, .ref a11, .ref a12, .int v5])), (v6, .inl (gI g, v7, .inl v8))]
abbrev rm_X9_receiptPrice : Room := { frames := 2, cells := 0, slots := 0, locals := 43 }
theorem mw_X9_receiptPrice_0 : (Cond.fieldLink RX9 29 "AnagramButcherModel" "receiptPrices" "[I" : Cond) ∈ wsX9_receiptPrice := (List.mem_cons_of_mem _ (List.mem_append_left _ (List.mem_of_getElem? (i := 0) rfl)))
theorem mi_X9_receiptPrice_X9 : ∀ w ∈ wsX90, w ∈ wsX9_receiptPrice := fun _ h => (List.mem_cons_of_mem _ (List.mem_append_right _ h))
set_option maxHeartbeats 4000000 in
set_option maxRecDepth 100000 in
theorem c_X9_receiptPrice (l : Launch) (g : Gx) (a0 a1 a2 a3 a4 a5 a6 a7 a8 a9 a10 a11 a12 : Nat) (v0 : Int32) (v1 : Int32) (v2 : Int32) (v3 : Int32) (v4 : Int32) (v5 : Int32) (v6 : Nat) (v7 : Nat) (v8 : Nat → Int32) (p1 : Int32) {post : Int32 → Int32 → Prop} (h : P_X9_receiptPrice post p1 v0 v1 v2 v3 v4 v5 v6 v7 v8) : cm l g yX9_receiptPrice wsX9_receiptPrice (rm_X9_receiptPrice) [.ref a0, .int p1] (W_X9_receiptPrice g a0 a1 a2 a3 a4 a5 a6 a7 a8 a9 a10 a11 a12 v0 v1 v2 v3 v4 v5 v6 v7 v8) (fun v X1 => ∃ (r : Int32) (uv0 : Int32), v = some (.int r) ∧ X1 = W_X9_receiptPrice g a0 a1 a2 a3 a4 a5 a6 a7 a8 a9 a10 a11 a12 uv0 v1 v2 v3 v4 v5 v6 v7 v8 ∧ post r uv0) := by
  refine cm_of (cc := cX9_receiptPrice) (nL := 2) (ret := (some .int)) (by decide +kernel) rfl (Nat.le_of_ble_eq_true rfl) ?_
  intro x hf hl hg hn hi hr
  subst hl
  subst hg
  show ww x (W_X9_receiptPrice (xg x) a0 a1 a2 a3 a4 a5 a6 a7 a8 a9 a10 a11 a12 v0 v1 v2 v3 v4 v5 v6 v7 v8) [(0, .ref a0), (1, .int p1)] 0 0 0 []
  unfold P_X9_receiptPrice at h
  refine xw_aload_n hf (pc := 0) dX9_receiptPrice_0 rfl 0 rfl ?_
  refine xw_iload_n hf (pc := 1) dX9_receiptPrice_1 rfl 1 rfl ?_
  refine xw_callV hf (pc := 2) (nA := 1) (Xr := [(v6, .inl (gI (xg x), v7, .inl v8))]) (rest := []) (T := TX9) (c_X9_isReceipt (xl x) (xg x) a0 a1 a2 a3 a4 a5 a6 v6 a7 a8 a9 a10 a11 a12 v0 v1 v2 v3 v4 v5 p1 h) gX9_receiptPrice_X9_isReceipt (by rfl) rfl rfl (by decide +kernel) ⟨⟨(Nat.le_of_ble_eq_true rfl), (Nat.le_of_ble_eq_true rfl)⟩, (Nat.le_of_ble_eq_true rfl), (Nat.le_of_ble_eq_true rfl)⟩ (Nat.le_of_ble_eq_true rfl) rfl rfl (sb_of [0, 1] rfl rfl) rfl dX9_receiptPrice_2 (fun v X1 hp => ?_)
  obtain ⟨r1, w2, rfl, rfl, h⟩ := hp
  refine xw_X (sb_of [0, 1] rfl rfl) (show ww x (W_X9_receiptPrice (xg x) a0 a1 a2 a3 a4 a5 a6 a7 a8 a9 a10 a11 a12 w2 v1 v2 v3 v4 v5 v6 v7 v8) [(0, .ref a0), (1, .int p1)] 0 0 5 [.int r1] from ?_)
  refine xw_if_eq hf (pc := 5) dX9_receiptPrice_5 (c := r1 = 0) Iff.rfl (tgt := 17) rfl ⟨fun c => ?_, fun c => ?_⟩
  · have h := h.1 c
    refine xw_iconst hf (pc := 17) dX9_receiptPrice_17 (v := 0) (by decide) ?_
    exact xw_iret hf (pc := 18) dX9_receiptPrice_18 hr (Nat.le_of_ble_eq_true rfl) (Nat.le_of_ble_eq_true rfl) ⟨_, _, rfl, rfl, h⟩
  · have h := h.2 c
    refine xw_aload_n hf (pc := 8) dX9_receiptPrice_8 rfl 0 rfl ?_
    refine xw_get hf (pc := 9) dX9_receiptPrice_9 (T := TX9) mi_X9_receiptPrice_X9 rfl 0 rfl 8 (by decide) rfl mw_X9_receiptPrice_0 rfl ?_
    refine xw_iload_n hf (pc := 12) dX9_receiptPrice_12 rfl 1 rfl ?_
    refine xw_iald hf (pc := 13) dX9_receiptPrice_13 1 rfl h.1 ?_
    have h := h.2
    refine xw_goto hf (pc := 14) dX9_receiptPrice_14 (tgt := 18) rfl ?_
    exact xw_iret hf (pc := 18) dX9_receiptPrice_18 hr (Nat.le_of_ble_eq_true rfl) (Nat.le_of_ble_eq_true rfl) ⟨_, _, rfl, rfl, h⟩
abbrev W_X9_isReturned (g : Gx) (a0 a1 a2 a3 a4 a5 a6 a7 a8 a9 a10 a11 a12 : Nat) (v0 : Int32) (v1 : Int32) (v2 : Int32) (v3 : Int32) (v4 : Int32) (v5 : Int32) (v6 : Nat) (v7 : Nat) (v8 : Nat → Int32) : va_W := [(a0, .inr (9, [.int v0, .ref a1, .int v1, .ref a2, .ref a3, .ref a4, .ref a5, .ref a6, .ref a7, .ref v6, .int v2, .int v3, .ref a8, .int v4, .ref a9, .ref a10, .ref a11, .ref a12, .int v5])), (v6, .inl (gZ g, v7, .inl v8))]
abbrev rm_X9_isReturned : Room := { frames := 2, cells := 0, slots := 0, locals := 43 }
theorem mw_X9_isReturned_0 : (Cond.fieldLink RX9 32 "AnagramButcherModel" "returned" "[Z" : Cond) ∈ wsX9_isReturned := (List.mem_cons_of_mem _ (List.mem_append_left _ (List.mem_of_getElem? (i := 0) rfl)))
theorem mi_X9_isReturned_X9 : ∀ w ∈ wsX90, w ∈ wsX9_isReturned := fun _ h => (List.mem_cons_of_mem _ (List.mem_append_right _ h))
set_option maxHeartbeats 4000000 in
set_option maxRecDepth 100000 in
theorem c_X9_isReturned (l : Launch) (g : Gx) (a0 a1 a2 a3 a4 a5 a6 a7 a8 a9 a10 a11 a12 : Nat) (v0 : Int32) (v1 : Int32) (v2 : Int32) (v3 : Int32) (v4 : Int32) (v5 : Int32) (v6 : Nat) (v7 : Nat) (v8 : Nat → Int32) (p1 : Int32) {post : Int32 → Int32 → Prop} (h : P_X9_isReturned post p1 v0 v1 v2 v3 v4 v5 v6 v7 v8) : cm l g yX9_isReturned wsX9_isReturned (rm_X9_isReturned) [.ref a0, .int p1] (W_X9_isReturned g a0 a1 a2 a3 a4 a5 a6 a7 a8 a9 a10 a11 a12 v0 v1 v2 v3 v4 v5 v6 v7 v8) (fun v X1 => ∃ (r : Int32) (uv0 : Int32), v = some (.int r) ∧ X1 = W_X9_isReturned g a0 a1 a2 a3 a4 a5 a6 a7 a8 a9 a10 a11 a12 uv0 v1 v2 v3 v4 v5 v6 v7 v8 ∧ post r uv0) := by
  refine cm_of (cc := cX9_isReturned) (nL := 2) (ret := (some .boolean)) (by decide +kernel) rfl (Nat.le_of_ble_eq_true rfl) ?_
  intro x hf hl hg hn hi hr
  subst hl
  subst hg
  show ww x (W_X9_isReturned (xg x) a0 a1 a2 a3 a4 a5 a6 a7 a8 a9 a10 a11 a12 v0 v1 v2 v3 v4 v5 v6 v7 v8) [(0, .ref a0), (1, .int p1)] 0 0 0 []
  unfold P_X9_isReturned at h
  refine xw_aload_n hf (pc := 0) dX9_isReturned_0 rfl 0 rfl ?_
  refine xw_iload_n hf (pc := 1) dX9_isReturned_1 rfl 1 rfl ?_
  refine xw_callV hf (pc := 2) (nA := 1) (Xr := [(v6, .inl (gZ (xg x), v7, .inl v8))]) (rest := []) (T := TX9) (c_X9_isReceipt (xl x) (xg x) a0 a1 a2 a3 a4 a5 a6 a7 v6 a8 a9 a10 a11 a12 v0 v1 v2 v3 v4 v5 p1 h) gX9_isReturned_X9_isReceipt (by rfl) rfl rfl (by decide +kernel) ⟨⟨(Nat.le_of_ble_eq_true rfl), (Nat.le_of_ble_eq_true rfl)⟩, (Nat.le_of_ble_eq_true rfl), (Nat.le_of_ble_eq_true rfl)⟩ (Nat.le_of_ble_eq_true rfl) rfl rfl (sb_of [0, 1] rfl rfl) rfl dX9_isReturned_2 (fun v X1 hp => ?_)
  obtain ⟨r1, w2, rfl, rfl, h⟩ := hp
  refine xw_X (sb_of [0, 1] rfl rfl) (show ww x (W_X9_isReturned (xg x) a0 a1 a2 a3 a4 a5 a6 a7 a8 a9 a10 a11 a12 w2 v1 v2 v3 v4 v5 v6 v7 v8) [(0, .ref a0), (1, .int p1)] 0 0 5 [.int r1] from ?_)
  refine xw_if_eq hf (pc := 5) dX9_isReturned_5 (c := r1 = 0) Iff.rfl (tgt := 21) rfl ⟨fun c => ?_, fun c => ?_⟩
  · have h := h.1 c
    refine xw_iconst hf (pc := 21) dX9_isReturned_21 (v := 0) (by decide) ?_
    exact xw_zret hf (pc := 22) dX9_isReturned_22 hr (Nat.le_of_ble_eq_true rfl) (Nat.le_of_ble_eq_true rfl) rfl ⟨_, _, rfl, rfl, h⟩
  · have h := h.2 c
    refine xw_aload_n hf (pc := 8) dX9_isReturned_8 rfl 0 rfl ?_
    refine xw_get hf (pc := 9) dX9_isReturned_9 (T := TX9) mi_X9_isReturned_X9 rfl 0 rfl 9 (by decide) rfl mw_X9_isReturned_0 rfl ?_
    refine xw_iload_n hf (pc := 12) dX9_isReturned_12 rfl 1 rfl ?_
    refine xw_zald hf (pc := 13) dX9_isReturned_13 1 rfl h.1 ?_
    have h := h.2
    refine xw_if_eq hf (pc := 14) dX9_isReturned_14 (c := (v8 p1.toNatClampNeg) = 0) Iff.rfl (tgt := 21) rfl ⟨fun c => ?_, fun c => ?_⟩
    · have h := h.1 c
      refine xw_iconst hf (pc := 21) dX9_isReturned_21 (v := 0) (by decide) ?_
      exact xw_zret hf (pc := 22) dX9_isReturned_22 hr (Nat.le_of_ble_eq_true rfl) (Nat.le_of_ble_eq_true rfl) rfl ⟨_, _, rfl, rfl, h⟩
    · have h := h.2 c
      refine xw_iconst hf (pc := 17) dX9_isReturned_17 (v := 1) (by decide) ?_
      refine xw_goto hf (pc := 18) dX9_isReturned_18 (tgt := 22) rfl ?_
      exact xw_zret hf (pc := 22) dX9_isReturned_22 hr (Nat.le_of_ble_eq_true rfl) (Nat.le_of_ble_eq_true rfl) rfl ⟨_, _, rfl, rfl, h⟩
abbrev W_X9_takeBack (g : Gx) (a0 a1 a2 a3 a4 a5 a6 a7 a8 a9 a10 : Nat) (v0 : Int32) (v1 : Int32) (v2 : Int32) (v3 : Int32) (v4 : Int32) (v5 : Int32) (v6 : Nat → Int32) (v7 : Nat → Int32) (v8 : Nat) (v9 : Nat) (v10 : Nat → Int64) (v11 : Nat) (v12 : Nat) (v13 : Nat → Int32) (v14 : Nat) (v15 : Nat) (v16 : Nat → Int32) (v17 : Nat → Int32) (v18 : Nat → Int32) : va_W := [(a0, .inr (9, [.int v0, .ref a5, .int v1, .ref a1, .ref a6, .ref a7, .ref a2, .ref v8, .ref v11, .ref v14, .int v2, .int v3, .ref a3, .int v4, .ref a4, .ref a8, .ref a9, .ref a10, .int v5])), (a1, .inl (gI g, 27, .inl v6)), (a2, .inl (gI g, 27, .inl v7)), (v8, .inl (gJ g, v9, .inr (.inl v10))), (v11, .inl (gI g, v12, .inl v13)), (v14, .inl (gZ g, v15, .inl v16)), (a3, .inl (gI g, 12, .inl v17)), (a4, .inl (gI g, 27, .inl v18))]
abbrev rm_X9_takeBack : Room := { frames := 2, cells := 0, slots := 0, locals := 47 }
theorem mw_X9_takeBack_0 : (Cond.fieldLink RX9 26 "AnagramButcherModel" "receiptWords" "[J" : Cond) ∈ wsX9_takeBack := (List.mem_cons_of_mem _ (List.mem_append_left _ (List.mem_append_left _ (List.mem_of_getElem? (l := wsX9_takeBack_r1) (i := 0) rfl))))
theorem mw_X9_takeBack_1 : (Cond.fieldLink RX9 13 "AnagramButcherModel" "stock" "[I" : Cond) ∈ wsX9_takeBack := (List.mem_cons_of_mem _ (List.mem_append_left _ (List.mem_append_left _ (List.mem_of_getElem? (l := wsX9_takeBack_r1) (i := 1) rfl))))
theorem mw_X9_takeBack_2 : (Cond.fieldLink RX9 39 "AnagramButcherModel" "counts" "[I" : Cond) ∈ wsX9_takeBack := (List.mem_cons_of_mem _ (List.mem_append_left _ (List.mem_append_left _ (List.mem_of_getElem? (l := wsX9_takeBack_r1) (i := 2) rfl))))
theorem mw_X9_takeBack_3 : (Cond.fieldLink RX9 32 "AnagramButcherModel" "returned" "[Z" : Cond) ∈ wsX9_takeBack := (List.mem_cons_of_mem _ (List.mem_append_left _ (List.mem_append_left _ (List.mem_of_getElem? (l := wsX9_takeBack_r1) (i := 3) rfl))))
theorem mw_X9_takeBack_4 : (Cond.fieldLink RX9 69 "AnagramButcherModel" "speltCount" "I" : Cond) ∈ wsX9_takeBack := (List.mem_cons_of_mem _ (List.mem_append_left _ (List.mem_append_left _ (List.mem_of_getElem? (l := wsX9_takeBack_r1) (i := 4) rfl))))
theorem mw_X9_takeBack_5 : (Cond.fieldLink RX9 36 "AnagramButcherModel" "spelt" "[I" : Cond) ∈ wsX9_takeBack := (List.mem_cons_of_mem _ (List.mem_append_left _ (List.mem_append_left _ (List.mem_of_getElem? (l := wsX9_takeBack_r1) (i := 5) rfl))))
theorem mw_X9_takeBack_6 : (Cond.fieldLink RX9 23 "AnagramButcherModel" "sold" "[I" : Cond) ∈ wsX9_takeBack := (List.mem_cons_of_mem _ (List.mem_append_left _ (List.mem_append_left _ (List.mem_of_getElem? (l := wsX9_takeBack_r1) (i := 6) rfl))))
theorem mw_X9_takeBack_7 : (Cond.fieldLink RX9 29 "AnagramButcherModel" "receiptPrices" "[I" : Cond) ∈ wsX9_takeBack := (List.mem_cons_of_mem _ (List.mem_append_left _ (List.mem_append_left _ (List.mem_of_getElem? (l := wsX9_takeBack_r1) (i := 7) rfl))))
theorem mw_X9_takeBack_8 : (Cond.fieldLink RX9 159 "AnagramButcherModel" "takings" "I" : Cond) ∈ wsX9_takeBack := (List.mem_cons_of_mem _ (List.mem_append_left _ (List.mem_append_left _ (List.mem_of_getElem? (l := wsX9_takeBack_r1) (i := 8) rfl))))
theorem mi_X9_takeBack_X9 : ∀ w ∈ wsX90, w ∈ wsX9_takeBack := fun _ h => (List.mem_cons_of_mem _ (List.mem_append_right _ h))
set_option maxHeartbeats 4000000 in
set_option maxRecDepth 100000 in
theorem w_X9_takeBack_L24 {x : Cx} (hf : fx x (rm_X9_takeBack) RX9 cX9_takeBack wsX9_takeBack) (hn : xn x = 4) {k0 n0 : Nat} (hk : k0 ≤ (rm_X9_takeBack).cells ∧ n0 ≤ (rm_X9_takeBack).slots) (a0 a1 a2 a3 a4 a5 a6 a7 a8 a9 a10 : Nat) (z1 : Int32) (v6 : Nat → Int32) (v18 : Nat → Int32) (v0 : Int32) (v1 : Int32) (v2 : Int32) (v3 : Int32) (v4 : Int32) (v5 : Int32) (v7 : Nat → Int32) (v8 : Nat) (v9 : Nat) (v10 : Nat → Int64) (v11 : Nat) (v12 : Nat) (v13 : Nat → Int32) (v14 : Nat) (v15 : Nat) (v16 : Nat → Int32) (v17 : Nat → Int32) {K65 : Int32 → Prop}
    (n : Nat) (z2 : Int32) (z3 : Int32) (h : P_X9_takeBack_L24 z1 v6 v18 K65 n z2 z3)
    (hK65 : ∀ (y2 : Int32), K65 y2 → ww x (W_X9_takeBack (xg x) a0 a1 a2 a3 a4 a5 a6 a7 a8 a9 a10 v0 v1 v2 v3 v4 v5 v6 v7 v8 v9 v10 v11 v12 v13 v14 v15 v16 v17 v18) [(0, .ref a0), (1, .int z1), (2, .int y2)] k0 n0 65 []) :
    ww x (W_X9_takeBack (xg x) a0 a1 a2 a3 a4 a5 a6 a7 a8 a9 a10 v0 v1 v2 v3 v4 v5 v6 v7 v8 v9 v10 v11 v12 v13 v14 v15 v16 v17 v18) [(0, .ref a0), (1, .int z1), (2, .int z2), (3, .int z3)] k0 n0 24 [] := by
  induction n generalizing z2 z3 with
  | zero => exact h.elim
  | succ n ih =>
    unfold P_X9_takeBack_L24 at h
    refine xw_iload_n hf (pc := 24) dX9_takeBack_24 rfl 3 rfl ?_
    refine xw_bipush hf (pc := 25) dX9_takeBack_25 (v := 26) (by decide) ?_
    refine xw_icmp_gt hf (pc := 27) dX9_takeBack_27 (tgt := 65) rfl ⟨fun c => ?_, fun c => ?_⟩
    · have h := h.1 c
      refine xw_L [0, 1, 2] rfl ?_
      exact hK65 _ h
    · have h := h.2 c
      refine xw_iload_n hf (pc := 30) dX9_takeBack_30 rfl 2 rfl ?_
      refine xw_if_eq hf (pc := 31) dX9_takeBack_31 (c := z2 = 0) Iff.rfl (tgt := 57) rfl ⟨fun c => ?_, fun c => ?_⟩
      · have h := h.1 c
        refine xw_iconst hf (pc := 57) dX9_takeBack_57 (v := 0) (by decide) ?_
        refine xw_istore_n hf (pc := 58) dX9_takeBack_58 rfl [(2, .int 0), (0, .ref a0), (1, .int z1), (3, .int z3)] hn (by decide) rfl ?_
        refine xw_iinc hf (pc := 59) dX9_takeBack_59 (v := z3 + 1) 3 rfl rfl [(3, .int (z3 + 1)), (2, .int 0), (0, .ref a0), (1, .int z1)] hn (by decide) rfl ?_
        refine xw_goto hf (pc := 62) dX9_takeBack_62 (tgt := 24) rfl ?_
        refine xw_L [2, 3, 1, 0] rfl ?_
        exact ih _ _ h
      · have h := h.2 c
        refine xw_aload_n hf (pc := 34) dX9_takeBack_34 rfl 0 rfl ?_
        refine xw_get hf (pc := 35) dX9_takeBack_35 (T := TX9) mi_X9_takeBack_X9 rfl 0 rfl 3 (by decide) rfl mw_X9_takeBack_1 rfl ?_
        refine xw_iload_n hf (pc := 38) dX9_takeBack_38 rfl 3 rfl ?_
        refine xw_iald hf (pc := 39) dX9_takeBack_39 1 rfl h.1 ?_
        have h := h.2
        refine xw_aload_n hf (pc := 40) dX9_takeBack_40 rfl 0 rfl ?_
        refine xw_get hf (pc := 41) dX9_takeBack_41 (T := TX9) mi_X9_takeBack_X9 rfl 0 rfl 14 (by decide) rfl mw_X9_takeBack_2 rfl ?_
        refine xw_iload_n hf (pc := 44) dX9_takeBack_44 rfl 3 rfl ?_
        refine xw_iald hf (pc := 45) dX9_takeBack_45 7 rfl h.1 ?_
        have h := h.2
        refine xw_iadd hf (pc := 46) dX9_takeBack_46 ?_
        refine xw_sipush hf (pc := 47) dX9_takeBack_47 (v := 999) (by decide) ?_
        refine xw_icmp_gt hf (pc := 50) dX9_takeBack_50 (tgt := 57) rfl ⟨fun c => ?_, fun c => ?_⟩
        · have h := h.1 c
          refine xw_iconst hf (pc := 57) dX9_takeBack_57 (v := 0) (by decide) ?_
          refine xw_istore_n hf (pc := 58) dX9_takeBack_58 rfl [(2, .int 0), (0, .ref a0), (1, .int z1), (3, .int z3)] hn (by decide) rfl ?_
          refine xw_iinc hf (pc := 59) dX9_takeBack_59 (v := z3 + 1) 3 rfl rfl [(3, .int (z3 + 1)), (2, .int 0), (0, .ref a0), (1, .int z1)] hn (by decide) rfl ?_
          refine xw_goto hf (pc := 62) dX9_takeBack_62 (tgt := 24) rfl ?_
          refine xw_L [2, 3, 1, 0] rfl ?_
          exact ih _ _ h
        · have h := h.2 c
          refine xw_iconst hf (pc := 53) dX9_takeBack_53 (v := 1) (by decide) ?_
          refine xw_goto hf (pc := 54) dX9_takeBack_54 (tgt := 58) rfl ?_
          refine xw_istore_n hf (pc := 58) dX9_takeBack_58 rfl [(2, .int 1), (0, .ref a0), (1, .int z1), (3, .int z3)] hn (by decide) rfl ?_
          refine xw_iinc hf (pc := 59) dX9_takeBack_59 (v := z3 + 1) 3 rfl rfl [(3, .int (z3 + 1)), (2, .int 1), (0, .ref a0), (1, .int z1)] hn (by decide) rfl ?_
          refine xw_goto hf (pc := 62) dX9_takeBack_62 (tgt := 24) rfl ?_
          refine xw_L [2, 3, 1, 0] rfl ?_
          exact ih _ _ h
set_option maxHeartbeats 4000000 in
set_option maxRecDepth 100000 in
theorem w_X9_takeBack_L86 {x : Cx} (hf : fx x (rm_X9_takeBack) RX9 cX9_takeBack wsX9_takeBack) (hn : xn x = 4) {k0 n0 : Nat} (hk : k0 ≤ (rm_X9_takeBack).cells ∧ n0 ≤ (rm_X9_takeBack).slots) (a0 a1 a2 a3 a4 a5 a6 a7 a8 a9 a10 : Nat) (z1 : Int32) (v4 : Int32) (v17 : Nat → Int32) (v0 : Int32) (v1 : Int32) (v2 : Int32) (v3 : Int32) (v5 : Int32) (v8 : Nat) (v9 : Nat) (v10 : Nat → Int64) (v11 : Nat) (v12 : Nat) (v13 : Nat → Int32) (v14 : Nat) (v15 : Nat) (v16 : Nat → Int32) (v18 : Nat → Int32) {K130 : (Nat → Int32) → (Nat → Int32) → Prop}
    (n : Nat) (z3 : Int32) (v6 : Nat → Int32) (v7 : Nat → Int32) (h : P_X9_takeBack_L86 z1 v4 v17 K130 n z3 v6 v7)
    (hK130 : ∀ (uv6 : Nat → Int32), ∀ (uv7 : Nat → Int32), K130 uv6 uv7 → ww x (W_X9_takeBack (xg x) a0 a1 a2 a3 a4 a5 a6 a7 a8 a9 a10 v0 v1 v2 v3 v4 v5 uv6 uv7 v8 v9 v10 v11 v12 v13 v14 v15 v16 v17 v18) [(0, .ref a0), (1, .int z1)] k0 n0 130 []) :
    ww x (W_X9_takeBack (xg x) a0 a1 a2 a3 a4 a5 a6 a7 a8 a9 a10 v0 v1 v2 v3 v4 v5 v6 v7 v8 v9 v10 v11 v12 v13 v14 v15 v16 v17 v18) [(0, .ref a0), (1, .int z1), (3, .int z3)] k0 n0 86 [] := by
  induction n generalizing z3 v6 v7 with
  | zero => exact h.elim
  | succ n ih =>
    unfold P_X9_takeBack_L86 at h
    refine xw_iload_n hf (pc := 86) dX9_takeBack_86 rfl 2 rfl ?_
    refine xw_aload_n hf (pc := 87) dX9_takeBack_87 rfl 0 rfl ?_
    refine xw_get hf (pc := 88) dX9_takeBack_88 (T := TX9) mi_X9_takeBack_X9 rfl 0 rfl 13 (by decide) rfl mw_X9_takeBack_4 rfl ?_
    refine xw_icmp_ge hf (pc := 91) dX9_takeBack_91 (tgt := 130) rfl ⟨fun c => ?_, fun c => ?_⟩
    · have h := h.1 c
      refine xw_L [0, 1] rfl ?_
      exact hK130 _ _ h
    · have h := h.2 c
      refine xw_aload_n hf (pc := 94) dX9_takeBack_94 rfl 0 rfl ?_
      refine xw_get hf (pc := 95) dX9_takeBack_95 (T := TX9) mi_X9_takeBack_X9 rfl 0 rfl 3 (by decide) rfl mw_X9_takeBack_1 rfl ?_
      refine xw_aload_n hf (pc := 98) dX9_takeBack_98 rfl 0 rfl ?_
      refine xw_get hf (pc := 99) dX9_takeBack_99 (T := TX9) mi_X9_takeBack_X9 rfl 0 rfl 12 (by decide) rfl mw_X9_takeBack_5 rfl ?_
      refine xw_iload_n hf (pc := 102) dX9_takeBack_102 rfl 2 rfl ?_
      refine xw_iald hf (pc := 103) dX9_takeBack_103 6 rfl h.1 ?_
      have h := h.2
      refine xw_dup2 hf (pc := 104) dX9_takeBack_104 rfl rfl ?_
      refine xw_iald hf (pc := 105) dX9_takeBack_105 1 rfl h.1 ?_
      have h := h.2
      refine xw_iconst hf (pc := 106) dX9_takeBack_106 (v := 1) (by decide) ?_
      refine xw_iadd hf (pc := 107) dX9_takeBack_107 ?_
      refine xw_iast hf (pc := 108) dX9_takeBack_108 1 rfl h.1 (W_X9_takeBack (xg x) a0 a1 a2 a3 a4 a5 a6 a7 a8 a9 a10 v0 v1 v2 v3 v4 v5 (upd v6 (v17 z3.toNatClampNeg).toNatClampNeg ((v6 (v17 z3.toNatClampNeg).toNatClampNeg) + 1)) v7 v8 v9 v10 v11 v12 v13 v14 v15 v16 v17 v18) rfl ?_
      have h := h.2
      refine xw_aload_n hf (pc := 109) dX9_takeBack_109 rfl 0 rfl ?_
      refine xw_get hf (pc := 110) dX9_takeBack_110 (T := TX9) mi_X9_takeBack_X9 rfl 0 rfl 6 (by decide) rfl mw_X9_takeBack_6 rfl ?_
      refine xw_aload_n hf (pc := 113) dX9_takeBack_113 rfl 0 rfl ?_
      refine xw_get hf (pc := 114) dX9_takeBack_114 (T := TX9) mi_X9_takeBack_X9 rfl 0 rfl 12 (by decide) rfl mw_X9_takeBack_5 rfl ?_
      refine xw_iload_n hf (pc := 117) dX9_takeBack_117 rfl 2 rfl ?_
      refine xw_iald hf (pc := 118) dX9_takeBack_118 6 rfl h.1 ?_
      have h := h.2
      refine xw_dup2 hf (pc := 119) dX9_takeBack_119 rfl rfl ?_
      refine xw_iald hf (pc := 120) dX9_takeBack_120 2 rfl h.1 ?_
      have h := h.2
      refine xw_iconst hf (pc := 121) dX9_takeBack_121 (v := 1) (by decide) ?_
      refine xw_isub hf (pc := 122) dX9_takeBack_122 ?_
      refine xw_iast hf (pc := 123) dX9_takeBack_123 2 rfl h.1 (W_X9_takeBack (xg x) a0 a1 a2 a3 a4 a5 a6 a7 a8 a9 a10 v0 v1 v2 v3 v4 v5 (upd v6 (v17 z3.toNatClampNeg).toNatClampNeg ((v6 (v17 z3.toNatClampNeg).toNatClampNeg) + 1)) (upd v7 (v17 z3.toNatClampNeg).toNatClampNeg ((v7 (v17 z3.toNatClampNeg).toNatClampNeg) - 1)) v8 v9 v10 v11 v12 v13 v14 v15 v16 v17 v18) rfl ?_
      have h := h.2
      refine xw_iinc hf (pc := 124) dX9_takeBack_124 (v := z3 + 1) 2 rfl rfl [(3, .int (z3 + 1)), (0, .ref a0), (1, .int z1)] hn (by decide) rfl ?_
      refine xw_goto hf (pc := 127) dX9_takeBack_127 (tgt := 86) rfl ?_
      refine xw_L [1, 2, 0] rfl ?_
      exact ih _ _ _ h
set_option maxHeartbeats 4000000 in
set_option maxRecDepth 100000 in
theorem c_X9_takeBack (l : Launch) (g : Gx) (a0 a1 a2 a3 a4 a5 a6 a7 a8 a9 a10 : Nat) (v0 : Int32) (v1 : Int32) (v2 : Int32) (v3 : Int32) (v4 : Int32) (v5 : Int32) (v6 : Nat → Int32) (v7 : Nat → Int32) (v8 : Nat) (v9 : Nat) (v10 : Nat → Int64) (v11 : Nat) (v12 : Nat) (v13 : Nat → Int32) (v14 : Nat) (v15 : Nat) (v16 : Nat → Int32) (v17 : Nat → Int32) (v18 : Nat → Int32) (p1 : Int32) {post : Int32 → Int32 → Int32 → Int32 → (Nat → Int32) → (Nat → Int32) → (Nat → Int32) → (Nat → Int32) → (Nat → Int32) → Prop} (h : P_X9_takeBack post p1 v0 v1 v2 v3 v4 v5 v6 v7 v8 v9 v10 v11 v12 v13 v14 v15 v16 v17 v18) : cm l g yX9_takeBack wsX9_takeBack (rm_X9_takeBack) [.ref a0, .int p1] (W_X9_takeBack g a0 a1 a2 a3 a4 a5 a6 a7 a8 a9 a10 v0 v1 v2 v3 v4 v5 v6 v7 v8 v9 v10 v11 v12 v13 v14 v15 v16 v17 v18) (fun v X1 => ∃ (r : Int32) (uv0 : Int32) (uv3 : Int32) (uv4 : Int32) (uv6 : Nat → Int32) (uv7 : Nat → Int32) (uv16 : Nat → Int32) (uv17 : Nat → Int32) (uv18 : Nat → Int32), v = some (.int r) ∧ X1 = W_X9_takeBack g a0 a1 a2 a3 a4 a5 a6 a7 a8 a9 a10 uv0 v1 v2 uv3 uv4 v5 uv6 uv7 v8 v9 v10 v11 v12 v13 v14 v15 uv16 uv17 uv18 ∧ post r uv0 uv3 uv4 uv6 uv7 uv16 uv17 uv18) := by
  refine cm_of (cc := cX9_takeBack) (nL := 4) (ret := (some .int)) (by decide +kernel) rfl (Nat.le_of_ble_eq_true rfl) ?_
  intro x hf hl hg hn hi hr
  subst hl
  subst hg
  show ww x (W_X9_takeBack (xg x) a0 a1 a2 a3 a4 a5 a6 a7 a8 a9 a10 v0 v1 v2 v3 v4 v5 v6 v7 v8 v9 v10 v11 v12 v13 v14 v15 v16 v17 v18) [(0, .ref a0), (1, .int p1)] 0 0 0 []
  unfold P_X9_takeBack at h
  refine xw_aload_n hf (pc := 0) dX9_takeBack_0 rfl 0 rfl ?_
  refine xw_iload_n hf (pc := 1) dX9_takeBack_1 rfl 1 rfl ?_
  refine xw_callV hf (pc := 2) (nA := 1) (Xr := [(a1, .inl (gI (xg x), 27, .inl v6)), (a2, .inl (gI (xg x), 27, .inl v7)), (v8, .inl (gJ (xg x), v9, .inr (.inl v10))), (v11, .inl (gI (xg x), v12, .inl v13)), (v14, .inl (gZ (xg x), v15, .inl v16)), (a3, .inl (gI (xg x), 12, .inl v17)), (a4, .inl (gI (xg x), 27, .inl v18))]) (rest := []) (T := TX9) (c_X9_isReceipt (xl x) (xg x) a0 a5 a1 a6 a7 a2 v8 v11 v14 a3 a4 a8 a9 a10 v0 v1 v2 v3 v4 v5 p1 h) gX9_takeBack_X9_isReceipt (by rfl) rfl rfl (by decide +kernel) ⟨⟨(Nat.le_of_ble_eq_true rfl), (Nat.le_of_ble_eq_true rfl)⟩, (Nat.le_of_ble_eq_true rfl), (Nat.le_of_ble_eq_true rfl)⟩ (Nat.le_of_ble_eq_true rfl) rfl rfl (sb_of [0, 1, 2, 3, 4, 5, 6, 7] rfl rfl) rfl dX9_takeBack_2 (fun v X1 hp => ?_)
  obtain ⟨r1, w2, rfl, rfl, h⟩ := hp
  refine xw_X (sb_of [0, 1, 2, 3, 4, 5, 6, 7] rfl rfl) (show ww x (W_X9_takeBack (xg x) a0 a1 a2 a3 a4 a5 a6 a7 a8 a9 a10 w2 v1 v2 v3 v4 v5 v6 v7 v8 v9 v10 v11 v12 v13 v14 v15 v16 v17 v18) [(0, .ref a0), (1, .int p1)] 0 0 5 [.int r1] from ?_)
  refine xw_if_ne hf (pc := 5) dX9_takeBack_5 (c := r1 = 0) Iff.rfl (tgt := 10) rfl ⟨fun c => ?_, fun c => ?_⟩
  · have h := h.1 c
    refine xw_iconst hf (pc := 8) dX9_takeBack_8 (v := 0) (by decide) ?_
    exact xw_iret hf (pc := 9) dX9_takeBack_9 hr (Nat.le_of_ble_eq_true rfl) (Nat.le_of_ble_eq_true rfl) ⟨_, _, _, _, _, _, _, _, _, rfl, rfl, h⟩
  · have h := h.2 c
    refine xw_aload_n hf (pc := 10) dX9_takeBack_10 rfl 0 rfl ?_
    refine xw_aload_n hf (pc := 11) dX9_takeBack_11 rfl 0 rfl ?_
    refine xw_get hf (pc := 12) dX9_takeBack_12 (T := TX9) mi_X9_takeBack_X9 rfl 0 rfl 7 (by decide) rfl mw_X9_takeBack_0 rfl ?_
    refine xw_iload_n hf (pc := 15) dX9_takeBack_15 rfl 1 rfl ?_
    refine xw_lald hf (pc := 16) dX9_takeBack_16 3 rfl h.1 ?_
    have h := h.2
    refine xw_callV hf (pc := 17) (nA := 1) (Xr := [(a1, .inl (gI (xg x), 27, .inl v6)), (a2, .inl (gI (xg x), 27, .inl v7)), (v8, .inl (gJ (xg x), v9, .inr (.inl v10))), (v11, .inl (gI (xg x), v12, .inl v13)), (v14, .inl (gZ (xg x), v15, .inl v16))]) (rest := []) (T := TX9) (c_X9_spell (xl x) (xg x) a0 a3 a4 a5 a1 a6 a7 a2 v8 v11 v14 a8 a9 a10 w2 v1 v2 v3 v4 v5 v17 v18 (v10 p1.toNatClampNeg) h) gX9_takeBack_X9_spell (by rfl) rfl rfl (by decide +kernel) ⟨⟨(Nat.le_of_ble_eq_true rfl), (Nat.le_of_ble_eq_true rfl)⟩, (Nat.le_of_ble_eq_true rfl), (Nat.le_of_ble_eq_true rfl)⟩ (Nat.le_of_ble_eq_true rfl) rfl rfl (sb_of [0, 6, 7, 1, 2, 3, 4, 5] rfl rfl) rfl dX9_takeBack_17 (fun v X1 hp => ?_)
    obtain ⟨w4, w5, w6, rfl, rfl, h⟩ := hp
    refine xw_X (sb_of [0, 3, 4, 5, 6, 7, 1, 2] rfl rfl) (show ww x (W_X9_takeBack (xg x) a0 a1 a2 a3 a4 a5 a6 a7 a8 a9 a10 w2 v1 v2 v3 w4 v5 v6 v7 v8 v9 v10 v11 v12 v13 v14 v15 v16 w5 w6) [(0, .ref a0), (1, .int p1)] 0 0 20 [] from ?_)
    refine xw_iconst hf (pc := 20) dX9_takeBack_20 (v := 1) (by decide) ?_
    refine xw_istore_n hf (pc := 21) dX9_takeBack_21 rfl [(2, .int 1), (0, .ref a0), (1, .int p1)] hn (by decide) rfl ?_
    refine xw_iconst hf (pc := 22) dX9_takeBack_22 (v := 1) (by decide) ?_
    refine xw_istore_n hf (pc := 23) dX9_takeBack_23 rfl [(3, .int 1), (2, .int 1), (0, .ref a0), (1, .int p1)] hn (by decide) rfl ?_
    refine xw_L [2, 3, 1, 0] rfl ?_
    refine w_X9_takeBack_L24 hf hn ⟨(Nat.le_of_ble_eq_true rfl), (Nat.le_of_ble_eq_true rfl)⟩ a0 a1 a2 a3 a4 a5 a6 a7 a8 a9 a10 p1 v6 w6 w2 v1 v2 v3 w4 v5 v7 v8 v9 v10 v11 v12 v13 v14 v15 v16 w5 FU _ _ h (fun x7 h => ?_)
    refine xw_aload_n hf (pc := 65) dX9_takeBack_65 rfl 0 rfl ?_
    refine xw_get hf (pc := 66) dX9_takeBack_66 (T := TX9) mi_X9_takeBack_X9 rfl 0 rfl 9 (by decide) rfl mw_X9_takeBack_3 rfl ?_
    refine xw_iload_n hf (pc := 69) dX9_takeBack_69 rfl 1 rfl ?_
    refine xw_zald hf (pc := 70) dX9_takeBack_70 5 rfl h.1 ?_
    have h := h.2
    refine xw_if_ne hf (pc := 71) dX9_takeBack_71 (c := (v16 p1.toNatClampNeg) = 0) Iff.rfl (tgt := 78) rfl ⟨fun c => ?_, fun c => ?_⟩
    · have h := h.1 c
      refine xw_iload_n hf (pc := 74) dX9_takeBack_74 rfl 2 rfl ?_
      refine xw_if_ne hf (pc := 75) dX9_takeBack_75 (c := x7 = 0) Iff.rfl (tgt := 84) rfl ⟨fun c => ?_, fun c => ?_⟩
      · have h := h.1 c
        refine xw_aload_n hf (pc := 78) dX9_takeBack_78 rfl 0 rfl ?_
        refine xw_iconst hf (pc := 79) dX9_takeBack_79 (v := 2) (by decide) ?_
        refine xw_callV hf (pc := 80) (nA := 1) (Xr := [(a1, .inl (gI (xg x), 27, .inl v6)), (a2, .inl (gI (xg x), 27, .inl v7)), (v8, .inl (gJ (xg x), v9, .inr (.inl v10))), (v11, .inl (gI (xg x), v12, .inl v13)), (v14, .inl (gZ (xg x), v15, .inl v16)), (a3, .inl (gI (xg x), 12, .inl w5)), (a4, .inl (gI (xg x), 27, .inl w6))]) (rest := []) (T := TX9) (c_X9_fail (xl x) (xg x) a0 a5 a1 a6 a7 a2 v8 v11 v14 a3 a4 a8 a9 a10 w2 v1 v2 v3 w4 v5 2 h) gX9_takeBack_X9_fail (by rfl) rfl rfl (by decide +kernel) ⟨⟨(Nat.le_of_ble_eq_true rfl), (Nat.le_of_ble_eq_true rfl)⟩, (Nat.le_of_ble_eq_true rfl), (Nat.le_of_ble_eq_true rfl)⟩ (Nat.le_of_ble_eq_true rfl) rfl rfl (sb_of [0, 1, 2, 3, 4, 5, 6, 7] rfl rfl) rfl dX9_takeBack_80 (fun v X1 hp => ?_)
        obtain ⟨r8, w9, rfl, rfl, h⟩ := hp
        refine xw_X (sb_of [0, 1, 2, 3, 4, 5, 6, 7] rfl rfl) (show ww x (W_X9_takeBack (xg x) a0 a1 a2 a3 a4 a5 a6 a7 a8 a9 a10 w9 v1 v2 v3 w4 v5 v6 v7 v8 v9 v10 v11 v12 v13 v14 v15 v16 w5 w6) [(0, .ref a0), (1, .int p1), (2, .int x7)] 0 0 83 [.int r8] from ?_)
        exact xw_iret hf (pc := 83) dX9_takeBack_83 hr (Nat.le_of_ble_eq_true rfl) (Nat.le_of_ble_eq_true rfl) ⟨_, _, _, _, _, _, _, _, _, rfl, rfl, h⟩
      · have h := h.2 c
        refine xw_iconst hf (pc := 84) dX9_takeBack_84 (v := 0) (by decide) ?_
        refine xw_istore_n hf (pc := 85) dX9_takeBack_85 rfl [(3, .int 0), (0, .ref a0), (1, .int p1), (2, .int x7)] hn (by decide) rfl ?_
        refine xw_L [1, 2, 0] rfl ?_
        refine w_X9_takeBack_L86 hf hn ⟨(Nat.le_of_ble_eq_true rfl), (Nat.le_of_ble_eq_true rfl)⟩ a0 a1 a2 a3 a4 a5 a6 a7 a8 a9 a10 p1 w4 w5 w2 v1 v2 v3 v5 v8 v9 v10 v11 v12 v13 v14 v15 v16 w6 FU _ _ _ h (fun w10 w11 h => ?_)
        refine xw_aload_n hf (pc := 130) dX9_takeBack_130 rfl 0 rfl ?_
        refine xw_get hf (pc := 131) dX9_takeBack_131 (T := TX9) mi_X9_takeBack_X9 rfl 0 rfl 9 (by decide) rfl mw_X9_takeBack_3 rfl ?_
        refine xw_iload_n hf (pc := 134) dX9_takeBack_134 rfl 1 rfl ?_
        refine xw_iconst hf (pc := 135) dX9_takeBack_135 (v := 1) (by decide) ?_
        refine xw_zast hf (pc := 136) dX9_takeBack_136 5 rfl h.1 (W_X9_takeBack (xg x) a0 a1 a2 a3 a4 a5 a6 a7 a8 a9 a10 w2 v1 v2 v3 w4 v5 w10 w11 v8 v9 v10 v11 v12 v13 v14 v15 (upd v16 p1.toNatClampNeg (vp_nar .boolean 1)) w5 w6) rfl ?_
        have h := h.2
        refine xw_aload_n hf (pc := 137) dX9_takeBack_137 rfl 0 rfl ?_
        refine xw_get hf (pc := 138) dX9_takeBack_138 (T := TX9) mi_X9_takeBack_X9 rfl 0 rfl 8 (by decide) rfl mw_X9_takeBack_7 rfl ?_
        refine xw_iload_n hf (pc := 141) dX9_takeBack_141 rfl 1 rfl ?_
        refine xw_iald hf (pc := 142) dX9_takeBack_142 4 rfl h.1 ?_
        have h := h.2
        refine xw_aload_n hf (pc := 143) dX9_takeBack_143 rfl 0 rfl ?_
        refine xw_get hf (pc := 144) dX9_takeBack_144 (T := TX9) mi_X9_takeBack_X9 rfl 0 rfl 8 (by decide) rfl mw_X9_takeBack_7 rfl ?_
        refine xw_iload_n hf (pc := 147) dX9_takeBack_147 rfl 1 rfl ?_
        refine xw_iald hf (pc := 148) dX9_takeBack_148 4 rfl h.1 ?_
        have h := h.2
        refine xw_bipush hf (pc := 149) dX9_takeBack_149 (v := 10) (by decide) ?_
        refine xw_idiv hf (pc := 151) dX9_takeBack_151 (by decide) ?_
        refine xw_isub hf (pc := 152) dX9_takeBack_152 ?_
        refine xw_topi (fun y12 ey12 => ?_)
        have h := h y12 ey12
        refine xw_istore_n hf (pc := 153) dX9_takeBack_153 rfl [(3, .int y12), (0, .ref a0), (1, .int p1)] hn (by decide) rfl ?_
        refine xw_aload_n hf (pc := 154) dX9_takeBack_154 rfl 1 rfl ?_
        refine xw_dup hf (pc := 155) dX9_takeBack_155 rfl ?_
        refine xw_get hf (pc := 156) dX9_takeBack_156 (T := TX9) mi_X9_takeBack_X9 rfl 0 rfl 11 (by decide) rfl mw_X9_takeBack_8 rfl ?_
        refine xw_iload_n hf (pc := 159) dX9_takeBack_159 rfl 0 rfl ?_
        refine xw_isub hf (pc := 160) dX9_takeBack_160 ?_
        refine xw_put hf (pc := 161) dX9_takeBack_161 (T := TX9) mi_X9_takeBack_X9 rfl tyX9_ok nmX9 0 rfl 11 (by decide) rfl mw_X9_takeBack_8 rfl rfl rfl rfl (Nat.le_of_ble_eq_true rfl) (W_X9_takeBack (xg x) a0 a1 a2 a3 a4 a5 a6 a7 a8 a9 a10 w2 v1 v2 (v3 - y12) w4 v5 w10 w11 v8 v9 v10 v11 v12 v13 v14 v15 (upd v16 p1.toNatClampNeg (vp_nar .boolean 1)) w5 w6) rfl ?_
        refine xw_iload_n hf (pc := 164) dX9_takeBack_164 rfl 0 rfl ?_
        exact xw_iret hf (pc := 165) dX9_takeBack_165 hr (Nat.le_of_ble_eq_true rfl) (Nat.le_of_ble_eq_true rfl) ⟨_, _, _, _, _, _, _, _, _, rfl, rfl, h⟩
    · have h := h.2 c
      refine xw_aload_n hf (pc := 78) dX9_takeBack_78 rfl 0 rfl ?_
      refine xw_iconst hf (pc := 79) dX9_takeBack_79 (v := 2) (by decide) ?_
      refine xw_callV hf (pc := 80) (nA := 1) (Xr := [(a1, .inl (gI (xg x), 27, .inl v6)), (a2, .inl (gI (xg x), 27, .inl v7)), (v8, .inl (gJ (xg x), v9, .inr (.inl v10))), (v11, .inl (gI (xg x), v12, .inl v13)), (v14, .inl (gZ (xg x), v15, .inl v16)), (a3, .inl (gI (xg x), 12, .inl w5)), (a4, .inl (gI (xg x), 27, .inl w6))]) (rest := []) (T := TX9) (c_X9_fail (xl x) (xg x) a0 a5 a1 a6 a7 a2 v8 v11 v14 a3 a4 a8 a9 a10 w2 v1 v2 v3 w4 v5 2 h) gX9_takeBack_X9_fail (by rfl) rfl rfl (by decide +kernel) ⟨⟨(Nat.le_of_ble_eq_true rfl), (Nat.le_of_ble_eq_true rfl)⟩, (Nat.le_of_ble_eq_true rfl), (Nat.le_of_ble_eq_true rfl)⟩ (Nat.le_of_ble_eq_true rfl) rfl rfl (sb_of [0, 1, 2, 3, 4, 5, 6, 7] rfl rfl) rfl dX9_takeBack_80 (fun v X1 hp => ?_)
      obtain ⟨r13, w14, rfl, rfl, h⟩ := hp
      refine xw_X (sb_of [0, 1, 2, 3, 4, 5, 6, 7] rfl rfl) (show ww x (W_X9_takeBack (xg x) a0 a1 a2 a3 a4 a5 a6 a7 a8 a9 a10 w14 v1 v2 v3 w4 v5 v6 v7 v8 v9 v10 v11 v12 v13 v14 v15 v16 w5 w6) [(0, .ref a0), (1, .int p1), (2, .int x7)] 0 0 83 [.int r13] from ?_)
      exact xw_iret hf (pc := 83) dX9_takeBack_83 hr (Nat.le_of_ble_eq_true rfl) (Nat.le_of_ble_eq_true rfl) ⟨_, _, _, _, _, _, _, _, _, rfl, rfl, h⟩
