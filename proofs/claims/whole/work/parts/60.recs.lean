abbrev W_X4_refund (g : Gx) (a0 : Nat) : va_W := []
abbrev rm_X4_refund : Room := { frames := 0, cells := 0, slots := 0, locals := 0 }
theorem mw_X4_refund_0 : (Cond.fieldLink RX4 13 "AnagramButcher$Receipt" "price" "I" : Cond) ∈ wsX4_refund := (List.mem_cons_of_mem _ (List.mem_append_left _ (List.mem_of_getElem? (i := 0) rfl)))
theorem mi_X4_refund_X4 : ∀ w ∈ wsX40, w ∈ wsX4_refund := fun _ h => (List.mem_cons_of_mem _ (List.mem_append_right _ h))
set_option maxHeartbeats 4000000 in
set_option maxRecDepth 100000 in
theorem c_X4_refund (l : Launch) (g : Gx) (a0 : Nat) (v0 : ZL) (p0 : Nat) (hip0 : p0 < lln v0) {post : Int32 → Prop} (h : P_X4_refund post p0 v0) : cm l g yX4_refund wsX4_refund (rm_X4_refund) [.ref (lga v0 p0)] (W_X4_refund g a0 ++ ZP g a0 v0) (fun v X1 => ∃ (r : Int32), v = some (.int r) ∧ X1 = W_X4_refund g a0 ++ ZP g a0 v0 ∧ post r) := by
  refine cm_of (cc := cX4_refund) (nL := 1) (ret := (some .int)) (by decide +kernel) rfl (Nat.le_of_ble_eq_true rfl) ?_
  intro x hf hl hg hn hi hr
  subst hl
  subst hg
  show ww x (W_X4_refund (xg x) a0 ++ ZP (xg x) a0 v0) [(0, .ref (lga v0 p0))] 0 0 0 []
  unfold P_X4_refund at h
  refine xw_aload_n hf (pc := 0) dX4_refund_0 rfl 0 rfl ?_
  refine xw_get hf (pc := 1) dX4_refund_1 (T := TX4) (ci := 5) mi_X4_refund_X4 rfl _ (ZP_at _ hip0) 1 (by decide) rfl mw_X4_refund_0 rfl ?_
  refine xw_aload_n hf (pc := 4) dX4_refund_4 rfl 0 rfl ?_
  refine xw_get hf (pc := 5) dX4_refund_5 (T := TX4) (ci := 5) mi_X4_refund_X4 rfl _ (ZP_at _ hip0) 1 (by decide) rfl mw_X4_refund_0 rfl ?_
  refine xw_bipush hf (pc := 8) dX4_refund_8 (v := 10) (by decide) ?_
  refine xw_idiv hf (pc := 10) dX4_refund_10 (by decide) ?_
  refine xw_isub hf (pc := 11) dX4_refund_11 ?_
  exact xw_iret hf (pc := 12) dX4_refund_12 hr (Nat.le_of_ble_eq_true rfl) (Nat.le_of_ble_eq_true rfl) ⟨_, rfl, rfl, h⟩
abbrev W_X0_hasRoomFor (g : Gx) (a0 a1 a2 a3 : Nat) (v0 : Int32) : va_W := [(a0, .inr (1, [.ref a1, .ref a2, .ref a3, .int v0]))]
abbrev rm_X0_hasRoomFor : Room := { frames := 1, cells := 0, slots := 0, locals := 20 }
theorem mw_X0_hasRoomFor_0 : (Cond.fieldLink RX0 12 "AnagramButcher$Accounts" "receipts" "Ljava/util/List;" : Cond) ∈ wsX0_hasRoomFor := (List.mem_cons_of_mem _ (List.mem_append_left _ (List.mem_append_left _ (List.mem_of_getElem? (i := 0) rfl))))
theorem mi_X0_hasRoomFor_X0 : ∀ w ∈ wsX00, w ∈ wsX0_hasRoomFor := fun _ h => (List.mem_cons_of_mem _ (List.mem_append_left _ (List.mem_append_right _ h)))
set_option maxHeartbeats 4000000 in
set_option maxRecDepth 100000 in
theorem c_X0_hasRoomFor (l : Launch) (g : Gx) (a0 a1 a2 a3 : Nat) (v0 : Int32) (v1 : ZL) (p1 : Int32) {post : Int32 → Prop} (h : P_X0_hasRoomFor post p1 v0 v1) : cm l g yX0_hasRoomFor wsX0_hasRoomFor (rm_X0_hasRoomFor) [.ref a0, .int p1] (W_X0_hasRoomFor g a0 a1 a2 a3 v0 ++ ZP g a1 v1) (fun v X1 => ∃ (r : Int32), v = some (.int r) ∧ X1 = W_X0_hasRoomFor g a0 a1 a2 a3 v0 ++ ZP g a1 v1 ∧ post r) := by
  refine cm_of (cc := cX0_hasRoomFor) (nL := 2) (ret := (some .boolean)) (by decide +kernel) rfl (Nat.le_of_ble_eq_true rfl) ?_
  intro x hf hl hg hn hi hr
  subst hl
  subst hg
  show ww x (W_X0_hasRoomFor (xg x) a0 a1 a2 a3 v0 ++ ZP (xg x) a1 v1) [(0, .ref a0), (1, .int p1)] 0 0 0 []
  unfold P_X0_hasRoomFor at h
  refine xw_aload_n hf (pc := 0) dX0_hasRoomFor_0 rfl 0 rfl ?_
  refine xw_get hf (pc := 1) dX0_hasRoomFor_1 (T := TX0) mi_X0_hasRoomFor_X0 rfl 0 rfl 0 (by decide) rfl mw_X0_hasRoomFor_0 rfl ?_
  refine xw_callF hf (pc := 4) (nA := 0) (Xr := W_X0_hasRoomFor (xg x) a0 a1 a2 a3 v0) (rest := []) (c_lsize (xl x) (xg x) a1 v1) gX0_hasRoomFor_Jx4a65c_size_8abf5_f28Jx4a65c (by rfl) (by decide +kernel) rfl (by decide +kernel) ⟨⟨(Nat.le_of_ble_eq_true rfl), (Nat.le_of_ble_eq_true rfl)⟩, (Nat.le_of_ble_eq_true rfl), (Nat.le_of_ble_eq_true rfl)⟩ (Nat.le_of_ble_eq_true rfl) rfl sb_z0 rfl dX0_hasRoomFor_4 (fun v X1 hp => ?_)
  obtain ⟨rfl, rfl⟩ := hp
  refine xw_X sb_z0 (show ww x (W_X0_hasRoomFor (xg x) a0 a1 a2 a3 v0 ++ ZP (xg x) a1 v1) [(0, .ref a0), (1, .int p1)] 0 0 9 [.int (lsz v1)] from ?_)
  refine xw_iload_n hf (pc := 9) dX0_hasRoomFor_9 rfl 1 rfl ?_
  refine xw_iadd hf (pc := 10) dX0_hasRoomFor_10 ?_
  refine xw_sipush hf (pc := 11) dX0_hasRoomFor_11 (v := 10240) (by decide) ?_
  refine xw_icmp_gt hf (pc := 14) dX0_hasRoomFor_14 (tgt := 21) rfl ⟨fun c => ?_, fun c => ?_⟩
  · have h := h.1 c
    refine xw_iconst hf (pc := 21) dX0_hasRoomFor_21 (v := 0) (by decide) ?_
    exact xw_zret hf (pc := 22) dX0_hasRoomFor_22 hr (Nat.le_of_ble_eq_true rfl) (Nat.le_of_ble_eq_true rfl) rfl ⟨_, rfl, rfl, h⟩
  · have h := h.2 c
    refine xw_iconst hf (pc := 17) dX0_hasRoomFor_17 (v := 1) (by decide) ?_
    refine xw_goto hf (pc := 18) dX0_hasRoomFor_18 (tgt := 22) rfl ?_
    exact xw_zret hf (pc := 22) dX0_hasRoomFor_22 hr (Nat.le_of_ble_eq_true rfl) (Nat.le_of_ble_eq_true rfl) rfl ⟨_, rfl, rfl, h⟩
abbrev W_X0_giveBack (g : Gx) (a0 a1 a2 a3 a4 : Nat) (v0 : Int32) (v1 : Nat → Int32) : va_W := [(a0, .inr (1, [.ref a3, .ref a4, .ref a1, .int v0])), (a1, .inr (3, [.ref a2])), (a2, .inl (gI g, 32, .inl v1))]
abbrev rm_X0_giveBack : Room := { frames := 2, cells := 0, slots := 0, locals := 47 }
theorem mw_X0_giveBack_0 : (Cond.fieldLink RX0 50 "AnagramButcher$Receipt" "returned" "Z" : Cond) ∈ wsX0_giveBack := (List.mem_cons_of_mem _ (List.mem_append_left _ (List.mem_append_left _ (List.mem_append_left _ (List.mem_of_getElem? (i := 0) rfl)))))
theorem mw_X0_giveBack_1 : (Cond.fieldLink RX0 43 "AnagramButcher$Accounts" "balance" "I" : Cond) ∈ wsX0_giveBack := (List.mem_cons_of_mem _ (List.mem_append_left _ (List.mem_append_left _ (List.mem_append_left _ (List.mem_of_getElem? (i := 1) rfl)))))
theorem mw_X0_giveBack_2 : (Cond.fieldLink RX0 25 "AnagramButcher$Accounts" "sold" "LAnagramButcher$Pile;" : Cond) ∈ wsX0_giveBack := (List.mem_cons_of_mem _ (List.mem_append_left _ (List.mem_append_left _ (List.mem_append_left _ (List.mem_of_getElem? (i := 2) rfl)))))
theorem mw_X0_giveBack_3 : (Cond.fieldLink RX0 57 "AnagramButcher$Receipt" "word" "J" : Cond) ∈ wsX0_giveBack := (List.mem_cons_of_mem _ (List.mem_append_left _ (List.mem_append_left _ (List.mem_append_left _ (List.mem_of_getElem? (i := 3) rfl)))))
theorem mi_X0_giveBack_X4 : ∀ w ∈ wsX40, w ∈ wsX0_giveBack := fun _ h => (List.mem_cons_of_mem _ (List.mem_append_left _ (List.mem_append_left _ (List.mem_append_right _ h))))
theorem mi_X0_giveBack_X0 : ∀ w ∈ wsX00, w ∈ wsX0_giveBack := fun _ h => (List.mem_cons_of_mem _ (List.mem_append_left _ (List.mem_append_right _ h)))
set_option maxHeartbeats 4000000 in
set_option maxRecDepth 100000 in
theorem c_X0_giveBack (l : Launch) (g : Gx) (a0 a1 a2 a3 a4 : Nat) (v0 : Int32) (v1 : Nat → Int32) (v2 : ZL) (p1 : Nat) (hip1 : p1 < lln v2) {post : Int32 → (Nat → Int32) → ZL → Prop} (h : P_X0_giveBack post p1 v0 v1 v2) : cm l g yX0_giveBack wsX0_giveBack (rm_X0_giveBack) [.ref a0, .ref (lga v2 p1)] (W_X0_giveBack g a0 a1 a2 a3 a4 v0 v1 ++ ZP g a3 v2) (fun v X1 => ∃ (uv0 : Int32) (uv1 : Nat → Int32) (uv2 : ZL), v = none ∧ X1 = W_X0_giveBack g a0 a1 a2 a3 a4 uv0 uv1 ++ ZP g a3 uv2 ∧ post uv0 uv1 uv2) := by
  refine cm_of (cc := cX0_giveBack) (nL := 2) (ret := none) (by decide +kernel) rfl (Nat.le_of_ble_eq_true rfl) ?_
  intro x hf hl hg hn hi hr
  subst hl
  subst hg
  show ww x (W_X0_giveBack (xg x) a0 a1 a2 a3 a4 v0 v1 ++ ZP (xg x) a3 v2) [(0, .ref a0), (1, .ref (lga v2 p1))] 0 0 0 []
  unfold P_X0_giveBack at h
  refine xw_aload_n hf (pc := 0) dX0_giveBack_0 rfl 1 rfl ?_
  refine xw_iconst hf (pc := 1) dX0_giveBack_1 (v := 1) (by decide) ?_
  refine xw_put hf (pc := 2) dX0_giveBack_2 (T := TX4) (ci := 5) mi_X0_giveBack_X4 rfl tyX4_ok nmX4 _ (ZP_at _ hip1) 2 (by decide) rfl mw_X0_giveBack_0 rfl rfl rfl rfl (Nat.le_of_ble_eq_true rfl) (W_X0_giveBack (xg x) a0 a1 a2 a3 a4 v0 v1 ++ ZP (xg x) a3 (lset v2 p1 1)) (ZP_set _ _ hip1) ?_
  rw [← lset_lga v2 p1 1 p1]
  refine xw_aload_n hf (pc := 5) dX0_giveBack_5 rfl 0 rfl ?_
  refine xw_dup hf (pc := 6) dX0_giveBack_6 rfl ?_
  refine xw_get hf (pc := 7) dX0_giveBack_7 (T := TX0) mi_X0_giveBack_X0 rfl 0 rfl 3 (by decide) rfl mw_X0_giveBack_1 rfl ?_
  refine xw_aload_n hf (pc := 10) dX0_giveBack_10 rfl 1 rfl ?_
  refine xw_callVj hf (pc := 11) (nA := 0) (Xr := [(a0, .inr (1, [.ref a3, .ref a4, .ref a1, .int v0])), (a1, .inr (3, [.ref a2])), (a2, .inl (gI (xg x), 32, .inl v1))]) (rest := [.int v0, .ref a0]) (T := TX4) (ci := 5) (c_X4_refund (xl x) (xg x) a3 (lset v2 p1 1) p1 (lset_lt hip1) h) gX0_giveBack_X4_refund (by rfl) rfl rfl (by decide +kernel) ⟨⟨(Nat.le_of_ble_eq_true rfl), (Nat.le_of_ble_eq_true rfl)⟩, (Nat.le_of_ble_eq_true rfl), (Nat.le_of_ble_eq_true rfl)⟩ (Nat.le_of_ble_eq_true rfl) rfl (ZP_at2 (lset_lt hip1)) (sb_zc (sb_of [0, 1, 2] rfl rfl)) rfl dX0_giveBack_11 (fun v X1 hp => ?_)
  obtain ⟨r1, rfl, rfl, h⟩ := hp
  refine xw_X (sb_cz (sb_of [0, 1, 2] rfl rfl)) (show ww x (W_X0_giveBack (xg x) a0 a1 a2 a3 a4 v0 v1 ++ ZP (xg x) a3 (lset v2 p1 1)) [(0, .ref a0), (1, .ref (lga (lset v2 p1 1) p1))] 0 0 14 [.int r1, .int v0, .ref a0] from ?_)
  refine xw_isub hf (pc := 14) dX0_giveBack_14 ?_
  refine xw_put hf (pc := 15) dX0_giveBack_15 (T := TX0) mi_X0_giveBack_X0 rfl tyX0_ok nmX0 0 rfl 3 (by decide) rfl mw_X0_giveBack_1 rfl rfl rfl rfl (Nat.le_of_ble_eq_true rfl) (W_X0_giveBack (xg x) a0 a1 a2 a3 a4 (v0 - r1) v1 ++ ZP (xg x) a3 (lset v2 p1 1)) rfl ?_
  refine xw_aload_n hf (pc := 18) dX0_giveBack_18 rfl 0 rfl ?_
  refine xw_get hf (pc := 19) dX0_giveBack_19 (T := TX0) mi_X0_giveBack_X0 rfl 0 rfl 2 (by decide) rfl mw_X0_giveBack_2 rfl ?_
  refine xw_aload_n hf (pc := 22) dX0_giveBack_22 rfl 1 rfl ?_
  refine xw_get hf (pc := 23) dX0_giveBack_23 (T := TX4) (ci := 5) mi_X0_giveBack_X4 rfl _ (ZP_at _ (lset_lt hip1)) 0 (by decide) rfl mw_X0_giveBack_3 rfl ?_
  refine xw_iconst hf (pc := 26) dX0_giveBack_26 (v := (-1)) (by decide) ?_
  refine xw_callV hf (pc := 27) (nA := 2) (Xr := [(a0, .inr (1, [.ref a3, .ref a4, .ref a1, .int (v0 - r1)]))] ++ ZP (xg x) a3 (lset v2 p1 1)) (rest := []) (T := TX2) (c_X2_put (xl x) (xg x) a1 a2 v1 (lwd (lset v2 p1 1) p1) (-1) h) gX0_giveBack_X2_put (by rfl) rfl rfl (by decide +kernel) ⟨⟨(Nat.le_of_ble_eq_true rfl), (Nat.le_of_ble_eq_true rfl)⟩, (Nat.le_of_ble_eq_true rfl), (Nat.le_of_ble_eq_true rfl)⟩ (Nat.le_of_ble_eq_true rfl) rfl rfl (sb_zr (sb_of [1, 2, 0] rfl rfl)) rfl dX0_giveBack_27 (fun v X1 hp => ?_)
  obtain ⟨w3, rfl, rfl, h⟩ := hp
  refine xw_X (sb_rz (sb_of [2, 0, 1] rfl rfl)) (show ww x (W_X0_giveBack (xg x) a0 a1 a2 a3 a4 (v0 - r1) w3 ++ ZP (xg x) a3 (lset v2 p1 1)) [(0, .ref a0), (1, .ref (lga (lset v2 p1 1) p1))] 0 0 30 [] from ?_)
  exact xw_vret hf (pc := 30) dX0_giveBack_30 hr (Nat.le_of_ble_eq_true rfl) (Nat.le_of_ble_eq_true rfl) ⟨_, _, _, rfl, rfl, h⟩
abbrev W_X8_requireReceipts (g : Gx) (a0 a1 a2 a3 a4 a5 a6 a7 a8 : Nat) (v0 : Int32) : va_W := [(a0, .inr (8, [.ref a3, .ref a4, .ref a1, .ref a5, .ref a6])), (a1, .inr (1, [.ref a2, .ref a7, .ref a8, .int v0]))]
abbrev rm_X8_requireReceipts : Room := { frames := 7, cells := 1, slots := 6, locals := 100 }
theorem mw_X8_requireReceipts_0 : (Cond.fieldLink RX8 26 "AnagramButcher" "accounts" "LAnagramButcher$Accounts;" : Cond) ∈ wsX8_requireReceipts := (List.mem_cons_of_mem _ (List.mem_append_left _ (List.mem_append_left _ (List.mem_append_left _ (List.mem_append_left _ (List.mem_of_getElem? (i := 2) rfl))))))
theorem mw_X8_requireReceipts_1 : (Cond.classLink RX8 52 "java/lang/IllegalStateException" : Cond) ∈ wsX8_requireReceipts := (List.mem_cons_of_mem _ (List.mem_append_left _ (List.mem_append_left _ (List.mem_append_left _ (List.mem_append_left _ (List.mem_of_getElem? (i := 0) rfl))))))
theorem mw_X8_requireReceipts_2 : (Cond.initialized "java/lang/IllegalStateException" : Cond) ∈ wsX8_requireReceipts := (List.mem_cons_of_mem _ (List.mem_append_left _ (List.mem_append_left _ (List.mem_append_left _ (List.mem_append_left _ (List.mem_of_getElem? (i := 1) rfl))))))
theorem mi_X8_requireReceipts_X8 : ∀ w ∈ wsX80, w ∈ wsX8_requireReceipts := fun _ h => (List.mem_cons_of_mem _ (List.mem_append_left _ (List.mem_append_left _ (List.mem_append_left _ (List.mem_append_right _ h)))))
theorem ma_X8_requireReceipts_56 : ∀ w ∈ (vx_atS RX8 56 "java/lang/IllegalStateException" ["java/lang/RuntimeException", "java/lang/Exception"]).filter goodWord, w ∈ wsX8_requireReceipts := fun _ h => (List.mem_cons_of_mem _ (List.mem_append_right _ h))
set_option maxHeartbeats 4000000 in
set_option maxRecDepth 100000 in
theorem c_X8_requireReceipts (l : Launch) (g : Gx) (hst : l.stackTraces = false) (a0 a1 a2 a3 a4 a5 a6 a7 a8 : Nat) (v0 : Int32) (v1 : ZL) (p1 : Int32) {post : Prop} {postX : String → Prop} (h : P_X8_requireReceipts post postX p1 v0 v1) : ce l g yX8_requireReceipts wsX8_requireReceipts (rm_X8_requireReceipts) [.ref a0, .int p1] (W_X8_requireReceipts g a0 a1 a2 a3 a4 a5 a6 a7 a8 v0 ++ ZP g a2 v1) (fun v X1 => v = none ∧ X1 = W_X8_requireReceipts g a0 a1 a2 a3 a4 a5 a6 a7 a8 v0 ++ ZP g a2 v1 ∧ post ) (fun E X1 => X1 = W_X8_requireReceipts g a0 a1 a2 a3 a4 a5 a6 a7 a8 v0 ++ ZP g a2 v1 ∧ postX E ) := by
  refine ce_of (cc := cX8_requireReceipts) (nL := 2) (ret := none) (by decide +kernel) rfl (Nat.le_of_ble_eq_true rfl) ?_
  intro x hf hl hg hn hi hr hx
  subst hl
  subst hg
  show ww x (W_X8_requireReceipts (xg x) a0 a1 a2 a3 a4 a5 a6 a7 a8 v0 ++ ZP (xg x) a2 v1) [(0, .ref a0), (1, .int p1)] 0 0 0 []
  unfold P_X8_requireReceipts at h
  refine xw_aload_n hf (pc := 0) dX8_requireReceipts_0 rfl 0 rfl ?_
  refine xw_get hf (pc := 1) dX8_requireReceipts_1 (T := TX8) mi_X8_requireReceipts_X8 rfl 0 rfl 2 (by decide) rfl mw_X8_requireReceipts_0 rfl ?_
  refine xw_iload_n hf (pc := 4) dX8_requireReceipts_4 rfl 1 rfl ?_
  refine xw_callV hf (pc := 5) (nA := 1) (Xr := [(a0, .inr (8, [.ref a3, .ref a4, .ref a1, .ref a5, .ref a6]))]) (rest := []) (T := TX0) (c_X0_hasRoomFor (xl x) (xg x) a1 a2 a7 a8 v0 v1 p1 h) gX8_requireReceipts_X0_hasRoomFor (by rfl) rfl rfl (by decide +kernel) ⟨⟨(Nat.le_of_ble_eq_true rfl), (Nat.le_of_ble_eq_true rfl)⟩, (Nat.le_of_ble_eq_true rfl), (Nat.le_of_ble_eq_true rfl)⟩ (Nat.le_of_ble_eq_true rfl) rfl rfl (sb_zc (sb_of [1, 0] rfl rfl)) rfl dX8_requireReceipts_5 (fun v X1 hp => ?_)
  obtain ⟨r1, rfl, rfl, h⟩ := hp
  refine xw_X (sb_cz (sb_of [1, 0] rfl rfl)) (show ww x (W_X8_requireReceipts (xg x) a0 a1 a2 a3 a4 a5 a6 a7 a8 v0 ++ ZP (xg x) a2 v1) [(0, .ref a0), (1, .int p1)] 0 0 8 [.int r1] from ?_)
  refine xw_if_ne hf (pc := 8) dX8_requireReceipts_8 (c := r1 = 0) Iff.rfl (tgt := 22) rfl ⟨fun c => ?_, fun c => ?_⟩
  · have h := h.1 c
    exact xw_throwW hf hst hx (pc := 11) (rest := []) (E := sISE) (text := "no receipts are left") mw_X8_requireReceipts_1 mw_X8_requireReceipts_2 (by decide +kernel) (by decide +kernel) ma_X8_requireReceipts_56 tf_56 tv_56 tw_56 dX8_requireReceipts_11 dX8_requireReceipts_14 dX8_requireReceipts_15 dX8_requireReceipts_18 dX8_requireReceipts_21 ⟨⟨(Nat.le_of_ble_eq_true rfl), (Nat.le_of_ble_eq_true rfl)⟩, (Nat.le_of_ble_eq_true rfl), (Nat.le_of_ble_eq_true rfl)⟩ ⟨(Nat.le_of_ble_eq_true rfl), (Nat.le_of_ble_eq_true rfl)⟩ (Nat.le_of_ble_eq_true rfl) ⟨rfl, h⟩
  · have h := h.2 c
    exact xw_vret hf (pc := 22) dX8_requireReceipts_22 hr (Nat.le_of_ble_eq_true rfl) (Nat.le_of_ble_eq_true rfl) ⟨rfl, rfl, h⟩
abbrev W_X8_requireReceipt (g : Gx) (a0 a1 a2 a3 a4 a5 a6 a7 a8 : Nat) (v0 : Int32) : va_W := [(a0, .inr (8, [.ref a3, .ref a4, .ref a1, .ref a5, .ref a6])), (a1, .inr (1, [.ref a2, .ref a7, .ref a8, .int v0]))]
abbrev rm_X8_requireReceipt : Room := { frames := 7, cells := 1, slots := 6, locals := 141 }
theorem mw_X8_requireReceipt_0 : (Cond.classLink RX8 263 "java/lang/IndexOutOfBoundsException" : Cond) ∈ wsX8_requireReceipt := (List.mem_cons_of_mem _ (List.mem_append_left _ (List.mem_append_left _ (List.mem_append_left _ (List.mem_append_left _ (List.mem_append_left _ (List.mem_of_getElem? (l := wsX8_requireReceipt_r1) (i := 0) rfl)))))))
theorem mw_X8_requireReceipt_1 : (Cond.initialized "java/lang/IndexOutOfBoundsException" : Cond) ∈ wsX8_requireReceipt := (List.mem_cons_of_mem _ (List.mem_append_left _ (List.mem_append_left _ (List.mem_append_left _ (List.mem_append_left _ (List.mem_append_left _ (List.mem_of_getElem? (l := wsX8_requireReceipt_r1) (i := 1) rfl)))))))
theorem mw_X8_requireReceipt_2 : (Cond.fieldLink RX8 26 "AnagramButcher" "accounts" "LAnagramButcher$Accounts;" : Cond) ∈ wsX8_requireReceipt := (List.mem_cons_of_mem _ (List.mem_append_left _ (List.mem_append_left _ (List.mem_append_left _ (List.mem_append_left _ (List.mem_append_left _ (List.mem_of_getElem? (l := wsX8_requireReceipt_r1) (i := 2) rfl)))))))
theorem mw_X8_requireReceipt_3 : (Cond.fieldLink RX8 210 "AnagramButcher$Accounts" "receipts" "Ljava/util/List;" : Cond) ∈ wsX8_requireReceipt := (List.mem_cons_of_mem _ (List.mem_append_left _ (List.mem_append_left _ (List.mem_append_left _ (List.mem_append_left _ (List.mem_append_left _ (List.mem_of_getElem? (l := wsX8_requireReceipt_r1) (i := 3) rfl)))))))
theorem mw_X8_requireReceipt_4 : (Cond.classLink RX8 222 "AnagramButcher$Receipt" : Cond) ∈ wsX8_requireReceipt := (List.mem_cons_of_mem _ (List.mem_append_left _ (List.mem_append_left _ (List.mem_append_left _ (List.mem_append_left _ (List.mem_append_left _ (List.mem_of_getElem? (l := wsX8_requireReceipt_r1) (i := 4) rfl)))))))
theorem ma_X8_requireReceipt_267 : ∀ w ∈ (vx_atS RX8 267 "java/lang/IndexOutOfBoundsException" ["java/lang/RuntimeException", "java/lang/Exception"]).filter goodWord, w ∈ wsX8_requireReceipt := fun _ h => (List.mem_cons_of_mem _ (List.mem_append_right _ h))
theorem mi_X8_requireReceipt_X8 : ∀ w ∈ wsX80, w ∈ wsX8_requireReceipt := fun _ h => (List.mem_cons_of_mem _ (List.mem_append_left _ (List.mem_append_left _ (List.mem_append_left _ (List.mem_append_right _ h)))))
theorem mi_X8_requireReceipt_X0 : ∀ w ∈ wsX00, w ∈ wsX8_requireReceipt := fun _ h => (List.mem_cons_of_mem _ (List.mem_append_left _ (List.mem_append_left _ (List.mem_append_right _ h))))
set_option maxHeartbeats 4000000 in
set_option maxRecDepth 100000 in
theorem c_X8_requireReceipt (l : Launch) (g : Gx) (hst : l.stackTraces = false) (a0 a1 a2 a3 a4 a5 a6 a7 a8 : Nat) (v0 : Int32) (v1 : ZL) (p1 : Int32) {post : Nat → Prop} {postX : String → Prop} (h : P_X8_requireReceipt post postX p1 v0 v1) : ce l g yX8_requireReceipt wsX8_requireReceipt (rm_X8_requireReceipt) [.ref a0, .int p1] (W_X8_requireReceipt g a0 a1 a2 a3 a4 a5 a6 a7 a8 v0 ++ ZP g a2 v1) (fun v X1 => ∃ (r : Nat), v = some (.ref (lga v1 r)) ∧ r < lln v1 ∧ X1 = W_X8_requireReceipt g a0 a1 a2 a3 a4 a5 a6 a7 a8 v0 ++ ZP g a2 v1 ∧ post r) (fun E X1 => X1 = W_X8_requireReceipt g a0 a1 a2 a3 a4 a5 a6 a7 a8 v0 ++ ZP g a2 v1 ∧ postX E ) := by
  refine ce_of (cc := cX8_requireReceipt) (nL := 2) (ret := (some (.object "AnagramButcher$Receipt"))) (by decide +kernel) rfl (Nat.le_of_ble_eq_true rfl) ?_
  intro x hf hl hg hn hi hr hx
  subst hl
  subst hg
  show ww x (W_X8_requireReceipt (xg x) a0 a1 a2 a3 a4 a5 a6 a7 a8 v0 ++ ZP (xg x) a2 v1) [(0, .ref a0), (1, .int p1)] 0 0 0 []
  unfold P_X8_requireReceipt at h
  refine xw_iload_n hf (pc := 0) dX8_requireReceipt_0 rfl 1 rfl ?_
  refine xw_if_lt hf (pc := 1) dX8_requireReceipt_1 (c := p1 < 0) Iff.rfl (tgt := 20) rfl ⟨fun c => ?_, fun c => ?_⟩
  · have h := h.1 c
    exact xw_throwW hf hst hx (pc := 20) (rest := []) (E := sIOB) (text := "there is no such receipt") mw_X8_requireReceipt_0 mw_X8_requireReceipt_1 (by decide +kernel) (by decide +kernel) ma_X8_requireReceipt_267 tf_267 tv_267 tw_267 dX8_requireReceipt_20 dX8_requireReceipt_23 dX8_requireReceipt_24 dX8_requireReceipt_27 dX8_requireReceipt_30 ⟨⟨(Nat.le_of_ble_eq_true rfl), (Nat.le_of_ble_eq_true rfl)⟩, (Nat.le_of_ble_eq_true rfl), (Nat.le_of_ble_eq_true rfl)⟩ ⟨(Nat.le_of_ble_eq_true rfl), (Nat.le_of_ble_eq_true rfl)⟩ (Nat.le_of_ble_eq_true rfl) ⟨rfl, h⟩
  · have h := h.2 c
    refine xw_iload_n hf (pc := 4) dX8_requireReceipt_4 rfl 1 rfl ?_
    refine xw_aload_n hf (pc := 5) dX8_requireReceipt_5 rfl 0 rfl ?_
    refine xw_get hf (pc := 6) dX8_requireReceipt_6 (T := TX8) mi_X8_requireReceipt_X8 rfl 0 rfl 2 (by decide) rfl mw_X8_requireReceipt_2 rfl ?_
    refine xw_get hf (pc := 9) dX8_requireReceipt_9 (T := TX0) mi_X8_requireReceipt_X0 rfl 1 rfl 0 (by decide) rfl mw_X8_requireReceipt_3 rfl ?_
    refine xw_callF hf (pc := 12) (nA := 0) (Xr := W_X8_requireReceipt (xg x) a0 a1 a2 a3 a4 a5 a6 a7 a8 v0) (rest := [.int p1]) (c_lsize (xl x) (xg x) a2 v1) gX8_requireReceipt_Jx4a65c_size_8abf5_f214Jx4a65c (by rfl) (by decide +kernel) rfl (by decide +kernel) ⟨⟨(Nat.le_of_ble_eq_true rfl), (Nat.le_of_ble_eq_true rfl)⟩, (Nat.le_of_ble_eq_true rfl), (Nat.le_of_ble_eq_true rfl)⟩ (Nat.le_of_ble_eq_true rfl) rfl sb_z0 rfl dX8_requireReceipt_12 (fun v X1 hp => ?_)
    obtain ⟨rfl, rfl⟩ := hp
    refine xw_X sb_z0 (show ww x (W_X8_requireReceipt (xg x) a0 a1 a2 a3 a4 a5 a6 a7 a8 v0 ++ ZP (xg x) a2 v1) [(0, .ref a0), (1, .int p1)] 0 0 17 [.int (lsz v1), .int p1] from ?_)
    refine xw_icmp_lt hf (pc := 17) dX8_requireReceipt_17 (tgt := 31) rfl ⟨fun c => ?_, fun c => ?_⟩
    · have h := h.1 c
      refine xw_aload_n hf (pc := 31) dX8_requireReceipt_31 rfl 0 rfl ?_
      refine xw_get hf (pc := 32) dX8_requireReceipt_32 (T := TX8) mi_X8_requireReceipt_X8 rfl 0 rfl 2 (by decide) rfl mw_X8_requireReceipt_2 rfl ?_
      refine xw_get hf (pc := 35) dX8_requireReceipt_35 (T := TX0) mi_X8_requireReceipt_X0 rfl 1 rfl 0 (by decide) rfl mw_X8_requireReceipt_3 rfl ?_
      refine xw_iload_n hf (pc := 38) dX8_requireReceipt_38 rfl 1 rfl ?_
      have hi1 := vp_lt h.1.1.1
      refine xw_callF hf (pc := 39) (nA := 1) (Xr := W_X8_requireReceipt (xg x) a0 a1 a2 a3 a4 a5 a6 a7 a8 v0) (rest := []) (c_lget (xl x) (xg x) a2 v1 p1 h.1) gX8_requireReceipt_Jx4a65c_get_915e3_f268Jx4a65c (by rfl) (by decide +kernel) rfl (by decide +kernel) ⟨⟨(Nat.le_of_ble_eq_true rfl), (Nat.le_of_ble_eq_true rfl)⟩, (Nat.le_of_ble_eq_true rfl), (Nat.le_of_ble_eq_true rfl)⟩ (Nat.le_of_ble_eq_true rfl) rfl sb_z0 rfl dX8_requireReceipt_39 (fun v X1 hp => ?_)
      obtain ⟨rfl, rfl⟩ := hp
      refine xw_X sb_z0 (show ww x (W_X8_requireReceipt (xg x) a0 a1 a2 a3 a4 a5 a6 a7 a8 v0 ++ ZP (xg x) a2 v1) [(0, .ref a0), (1, .int p1)] 0 0 44 [.ref (lga v1 p1.toNatClampNeg)] from ?_)
      have h := h.2
      refine xw_cast hf (pc := 44) dX8_requireReceipt_44 (T := TX4) (ci := 5) mw_X8_requireReceipt_4 rfl (ZP_at _ hi1) ?_
      exact xw_aret hf (pc := 47) dX8_requireReceipt_47 hr (Or.inl ⟨_, rfl⟩) (Nat.le_of_ble_eq_true rfl) (Nat.le_of_ble_eq_true rfl) ⟨_, rfl, hi1, rfl, h⟩
    · have h := h.2 c
      exact xw_throwW hf hst hx (pc := 20) (rest := []) (E := sIOB) (text := "there is no such receipt") mw_X8_requireReceipt_0 mw_X8_requireReceipt_1 (by decide +kernel) (by decide +kernel) ma_X8_requireReceipt_267 tf_267 tv_267 tw_267 dX8_requireReceipt_20 dX8_requireReceipt_23 dX8_requireReceipt_24 dX8_requireReceipt_27 dX8_requireReceipt_30 ⟨⟨(Nat.le_of_ble_eq_true rfl), (Nat.le_of_ble_eq_true rfl)⟩, (Nat.le_of_ble_eq_true rfl), (Nat.le_of_ble_eq_true rfl)⟩ ⟨(Nat.le_of_ble_eq_true rfl), (Nat.le_of_ble_eq_true rfl)⟩ (Nat.le_of_ble_eq_true rfl) ⟨rfl, h⟩
abbrev W_X8_receiptCount (g : Gx) (a0 a1 a2 a3 a4 a5 a6 a7 a8 : Nat) (v0 : Int32) : va_W := [(a0, .inr (8, [.ref a3, .ref a4, .ref a1, .ref a5, .ref a6])), (a1, .inr (1, [.ref a2, .ref a7, .ref a8, .int v0]))]
abbrev rm_X8_receiptCount : Room := { frames := 1, cells := 0, slots := 0, locals := 20 }
theorem mw_X8_receiptCount_0 : (Cond.fieldLink RX8 26 "AnagramButcher" "accounts" "LAnagramButcher$Accounts;" : Cond) ∈ wsX8_receiptCount := (List.mem_cons_of_mem _ (List.mem_append_left _ (List.mem_append_left _ (List.mem_append_left _ (List.mem_of_getElem? (i := 0) rfl)))))
theorem mw_X8_receiptCount_1 : (Cond.fieldLink RX8 210 "AnagramButcher$Accounts" "receipts" "Ljava/util/List;" : Cond) ∈ wsX8_receiptCount := (List.mem_cons_of_mem _ (List.mem_append_left _ (List.mem_append_left _ (List.mem_append_left _ (List.mem_of_getElem? (i := 1) rfl)))))
theorem mi_X8_receiptCount_X8 : ∀ w ∈ wsX80, w ∈ wsX8_receiptCount := fun _ h => (List.mem_cons_of_mem _ (List.mem_append_left _ (List.mem_append_left _ (List.mem_append_right _ h))))
theorem mi_X8_receiptCount_X0 : ∀ w ∈ wsX00, w ∈ wsX8_receiptCount := fun _ h => (List.mem_cons_of_mem _ (List.mem_append_left _ (List.mem_append_right _ h)))
set_option maxHeartbeats 4000000 in
set_option maxRecDepth 100000 in
theorem c_X8_receiptCount (l : Launch) (g : Gx) (a0 a1 a2 a3 a4 a5 a6 a7 a8 : Nat) (v0 : Int32) (v1 : ZL) {post : Int32 → Prop} (h : P_X8_receiptCount post v0 v1) : cm l g yX8_receiptCount wsX8_receiptCount (rm_X8_receiptCount) [.ref a0] (W_X8_receiptCount g a0 a1 a2 a3 a4 a5 a6 a7 a8 v0 ++ ZP g a2 v1) (fun v X1 => ∃ (r : Int32), v = some (.int r) ∧ X1 = W_X8_receiptCount g a0 a1 a2 a3 a4 a5 a6 a7 a8 v0 ++ ZP g a2 v1 ∧ post r) := by
  refine cm_of (cc := cX8_receiptCount) (nL := 1) (ret := (some .int)) (by decide +kernel) rfl (Nat.le_of_ble_eq_true rfl) ?_
  intro x hf hl hg hn hi hr
  subst hl
  subst hg
  show ww x (W_X8_receiptCount (xg x) a0 a1 a2 a3 a4 a5 a6 a7 a8 v0 ++ ZP (xg x) a2 v1) [(0, .ref a0)] 0 0 0 []
  unfold P_X8_receiptCount at h
  refine xw_aload_n hf (pc := 0) dX8_receiptCount_0 rfl 0 rfl ?_
  refine xw_get hf (pc := 1) dX8_receiptCount_1 (T := TX8) mi_X8_receiptCount_X8 rfl 0 rfl 2 (by decide) rfl mw_X8_receiptCount_0 rfl ?_
  refine xw_get hf (pc := 4) dX8_receiptCount_4 (T := TX0) mi_X8_receiptCount_X0 rfl 1 rfl 0 (by decide) rfl mw_X8_receiptCount_1 rfl ?_
  refine xw_callF hf (pc := 7) (nA := 0) (Xr := W_X8_receiptCount (xg x) a0 a1 a2 a3 a4 a5 a6 a7 a8 v0) (rest := []) (c_lsize (xl x) (xg x) a2 v1) gX8_receiptCount_Jx4a65c_size_8abf5_f214Jx4a65c (by rfl) (by decide +kernel) rfl (by decide +kernel) ⟨⟨(Nat.le_of_ble_eq_true rfl), (Nat.le_of_ble_eq_true rfl)⟩, (Nat.le_of_ble_eq_true rfl), (Nat.le_of_ble_eq_true rfl)⟩ (Nat.le_of_ble_eq_true rfl) rfl sb_z0 rfl dX8_receiptCount_7 (fun v X1 hp => ?_)
  obtain ⟨rfl, rfl⟩ := hp
  refine xw_X sb_z0 (show ww x (W_X8_receiptCount (xg x) a0 a1 a2 a3 a4 a5 a6 a7 a8 v0 ++ ZP (xg x) a2 v1) [(0, .ref a0)] 0 0 12 [.int (lsz v1)] from ?_)
  exact xw_iret hf (pc := 12) dX8_receiptCount_12 hr (Nat.le_of_ble_eq_true rfl) (Nat.le_of_ble_eq_true rfl) ⟨_, rfl, rfl, h⟩
abbrev W_X8_receiptWord (g : Gx) (a0 a1 a2 a3 a4 a5 a6 a7 a8 : Nat) (v0 : Int32) : va_W := [(a0, .inr (8, [.ref a3, .ref a4, .ref a1, .ref a5, .ref a6])), (a1, .inr (1, [.ref a2, .ref a7, .ref a8, .int v0]))]
abbrev rm_X8_receiptWord : Room := { frames := 8, cells := 1, slots := 6, locals := 162 }
theorem mw_X8_receiptWord_0 : (Cond.fieldLink RX8 221 "AnagramButcher$Receipt" "word" "J" : Cond) ∈ wsX8_receiptWord := (List.mem_cons_of_mem _ (List.mem_append_left _ (List.mem_append_left _ (List.mem_append_left _ (List.mem_append_left _ (List.mem_append_left _ (List.mem_append_left _ (List.mem_of_getElem? (l := wsX8_receiptWord_r1) (i := 0) rfl))))))))
theorem mi_X8_receiptWord_X4 : ∀ w ∈ wsX40, w ∈ wsX8_receiptWord := fun _ h => (List.mem_cons_of_mem _ (List.mem_append_left _ (List.mem_append_left _ (List.mem_append_left _ (List.mem_append_left _ (List.mem_append_right _ h))))))
set_option maxHeartbeats 4000000 in
set_option maxRecDepth 100000 in
theorem c_X8_receiptWord (l : Launch) (g : Gx) (hst : l.stackTraces = false) (a0 a1 a2 a3 a4 a5 a6 a7 a8 : Nat) (v0 : Int32) (v1 : ZL) (p1 : Int32) {post : Int64 → Prop} {postX : String → Prop} (h : P_X8_receiptWord post postX p1 v0 v1) : ce l g yX8_receiptWord wsX8_receiptWord (rm_X8_receiptWord) [.ref a0, .int p1] (W_X8_receiptWord g a0 a1 a2 a3 a4 a5 a6 a7 a8 v0 ++ ZP g a2 v1) (fun v X1 => ∃ (r : Int64), v = some (.long r) ∧ X1 = W_X8_receiptWord g a0 a1 a2 a3 a4 a5 a6 a7 a8 v0 ++ ZP g a2 v1 ∧ post r) (fun E X1 => X1 = W_X8_receiptWord g a0 a1 a2 a3 a4 a5 a6 a7 a8 v0 ++ ZP g a2 v1 ∧ postX E ) := by
  refine ce_of (cc := cX8_receiptWord) (nL := 2) (ret := (some .long)) (by decide +kernel) rfl (Nat.le_of_ble_eq_true rfl) ?_
  intro x hf hl hg hn hi hr hx
  subst hl
  subst hg
  show ww x (W_X8_receiptWord (xg x) a0 a1 a2 a3 a4 a5 a6 a7 a8 v0 ++ ZP (xg x) a2 v1) [(0, .ref a0), (1, .int p1)] 0 0 0 []
  unfold P_X8_receiptWord at h
  refine xw_aload_n hf (pc := 0) dX8_receiptWord_0 rfl 0 rfl ?_
  refine xw_iload_n hf (pc := 1) dX8_receiptWord_1 rfl 1 rfl ?_
  refine xw_callVX hf (pc := 2) (nA := 1) (Xr := []) (rest := []) (T := TX8) (c_X8_requireReceipt (xl x) (xg x) hst a0 a1 a2 a3 a4 a5 a6 a7 a8 v0 v1 p1 h) gX8_receiptWord_X8_requireReceipt (by rfl) rfl rfl (by decide +kernel) ⟨⟨(Nat.le_of_ble_eq_true rfl), (Nat.le_of_ble_eq_true rfl)⟩, (Nat.le_of_ble_eq_true rfl), (Nat.le_of_ble_eq_true rfl)⟩ (Nat.le_of_ble_eq_true rfl) rfl rfl (sb_zc (sb_of [0, 1] rfl rfl)) rfl dX8_receiptWord_2 (fun v X1 hp => ?_) (fun E2 X1 hp => ?_)
  · obtain ⟨r1, rfl, hi_r1, rfl, h⟩ := hp
    refine xw_X (sb_cz (sb_of [0, 1] rfl rfl)) (show ww x (W_X8_receiptWord (xg x) a0 a1 a2 a3 a4 a5 a6 a7 a8 v0 ++ ZP (xg x) a2 v1) [(0, .ref a0), (1, .int p1)] 1 6 5 [.ref (lga v1 r1)] from ?_)
    refine xw_get hf (pc := 5) dX8_receiptWord_5 (T := TX4) (ci := 5) mi_X8_receiptWord_X4 rfl _ (ZP_at _ hi_r1) 0 (by decide) rfl mw_X8_receiptWord_0 rfl ?_
    exact xw_lret hf (pc := 8) dX8_receiptWord_8 hr (Nat.le_of_ble_eq_true rfl) (Nat.le_of_ble_eq_true rfl) ⟨_, rfl, rfl, h⟩
  · obtain ⟨rfl, h⟩ := hp
    refine xe_X (sb_cz (sb_of [0, 1] rfl rfl)) (show wx x (W_X8_receiptWord (xg x) a0 a1 a2 a3 a4 a5 a6 a7 a8 v0 ++ ZP (xg x) a2 v1) [(0, .ref a0), (1, .int p1)] 1 6 2 E2 [] from ?_)
    exact xw_out hx (Nat.le_of_ble_eq_true rfl) (Nat.le_of_ble_eq_true rfl) ⟨rfl, h⟩
abbrev W_X8_receiptPrice (g : Gx) (a0 a1 a2 a3 a4 a5 a6 a7 a8 : Nat) (v0 : Int32) : va_W := [(a0, .inr (8, [.ref a3, .ref a4, .ref a1, .ref a5, .ref a6])), (a1, .inr (1, [.ref a2, .ref a7, .ref a8, .int v0]))]
abbrev rm_X8_receiptPrice : Room := { frames := 8, cells := 1, slots := 6, locals := 162 }
theorem mw_X8_receiptPrice_0 : (Cond.fieldLink RX8 226 "AnagramButcher$Receipt" "price" "I" : Cond) ∈ wsX8_receiptPrice := (List.mem_cons_of_mem _ (List.mem_append_left _ (List.mem_append_left _ (List.mem_append_left _ (List.mem_append_left _ (List.mem_append_left _ (List.mem_append_left _ (List.mem_of_getElem? (l := wsX8_receiptPrice_r1) (i := 0) rfl))))))))
theorem mi_X8_receiptPrice_X4 : ∀ w ∈ wsX40, w ∈ wsX8_receiptPrice := fun _ h => (List.mem_cons_of_mem _ (List.mem_append_left _ (List.mem_append_left _ (List.mem_append_left _ (List.mem_append_left _ (List.mem_append_right _ h))))))
set_option maxHeartbeats 4000000 in
set_option maxRecDepth 100000 in
theorem c_X8_receiptPrice (l : Launch) (g : Gx) (hst : l.stackTraces = false) (a0 a1 a2 a3 a4 a5 a6 a7 a8 : Nat) (v0 : Int32) (v1 : ZL) (p1 : Int32) {post : Int32 → Prop} {postX : String → Prop} (h : P_X8_receiptPrice post postX p1 v0 v1) : ce l g yX8_receiptPrice wsX8_receiptPrice (rm_X8_receiptPrice) [.ref a0, .int p1] (W_X8_receiptPrice g a0 a1 a2 a3 a4 a5 a6 a7 a8 v0 ++ ZP g a2 v1) (fun v X1 => ∃ (r : Int32), v = some (.int r) ∧ X1 = W_X8_receiptPrice g a0 a1 a2 a3 a4 a5 a6 a7 a8 v0 ++ ZP g a2 v1 ∧ post r) (fun E X1 => X1 = W_X8_receiptPrice g a0 a1 a2 a3 a4 a5 a6 a7 a8 v0 ++ ZP g a2 v1 ∧ postX E ) := by
  refine ce_of (cc := cX8_receiptPrice) (nL := 2) (ret := (some .int)) (by decide +kernel) rfl (Nat.le_of_ble_eq_true rfl) ?_
  intro x hf hl hg hn hi hr hx
  subst hl
  subst hg
  show ww x (W_X8_receiptPrice (xg x) a0 a1 a2 a3 a4 a5 a6 a7 a8 v0 ++ ZP (xg x) a2 v1) [(0, .ref a0), (1, .int p1)] 0 0 0 []
  unfold P_X8_receiptPrice at h
  refine xw_aload_n hf (pc := 0) dX8_receiptPrice_0 rfl 0 rfl ?_
  refine xw_iload_n hf (pc := 1) dX8_receiptPrice_1 rfl 1 rfl ?_
  refine xw_callVX hf (pc := 2) (nA := 1) (Xr := []) (rest := []) (T := TX8) (c_X8_requireReceipt (xl x) (xg x) hst a0 a1 a2 a3 a4 a5 a6 a7 a8 v0 v1 p1 h) gX8_receiptPrice_X8_requireReceipt (by rfl) rfl rfl (by decide +kernel) ⟨⟨(Nat.le_of_ble_eq_true rfl), (Nat.le_of_ble_eq_true rfl)⟩, (Nat.le_of_ble_eq_true rfl), (Nat.le_of_ble_eq_true rfl)⟩ (Nat.le_of_ble_eq_true rfl) rfl rfl (sb_zc (sb_of [0, 1] rfl rfl)) rfl dX8_receiptPrice_2 (fun v X1 hp => ?_) (fun E2 X1 hp => ?_)
  · obtain ⟨r1, rfl, hi_r1, rfl, h⟩ := hp
    refine xw_X (sb_cz (sb_of [0, 1] rfl rfl)) (show ww x (W_X8_receiptPrice (xg x) a0 a1 a2 a3 a4 a5 a6 a7 a8 v0 ++ ZP (xg x) a2 v1) [(0, .ref a0), (1, .int p1)] 1 6 5 [.ref (lga v1 r1)] from ?_)
    refine xw_get hf (pc := 5) dX8_receiptPrice_5 (T := TX4) (ci := 5) mi_X8_receiptPrice_X4 rfl _ (ZP_at _ hi_r1) 1 (by decide) rfl mw_X8_receiptPrice_0 rfl ?_
    exact xw_iret hf (pc := 8) dX8_receiptPrice_8 hr (Nat.le_of_ble_eq_true rfl) (Nat.le_of_ble_eq_true rfl) ⟨_, rfl, rfl, h⟩
  · obtain ⟨rfl, h⟩ := hp
    refine xe_X (sb_cz (sb_of [0, 1] rfl rfl)) (show wx x (W_X8_receiptPrice (xg x) a0 a1 a2 a3 a4 a5 a6 a7 a8 v0 ++ ZP (xg x) a2 v1) [(0, .ref a0), (1, .int p1)] 1 6 2 E2 [] from ?_)
    exact xw_out hx (Nat.le_of_ble_eq_true rfl) (Nat.le_of_ble_eq_true rfl) ⟨rfl, h⟩
abbrev W_X8_isReturned (g : Gx) (a0 a1 a2 a3 a4 a5 a6 a7 a8 : Nat) (v0 : Int32) : va_W := [(a0, .inr (8, [.ref a3, .ref a4, .ref a1, .ref a5, .ref a6])), (a1, .inr (1, [.ref a2, .ref a7, .ref a8, .int v0]))]
abbrev rm_X8_isReturned : Room := { frames := 8, cells := 1, slots := 6, locals := 162 }
theorem mw_X8_isReturned_0 : (Cond.fieldLink RX8 230 "AnagramButcher$Receipt" "returned" "Z" : Cond) ∈ wsX8_isReturned := (List.mem_cons_of_mem _ (List.mem_append_left _ (List.mem_append_left _ (List.mem_append_left _ (List.mem_append_left _ (List.mem_append_left _ (List.mem_append_left _ (List.mem_of_getElem? (l := wsX8_isReturned_r1) (i := 0) rfl))))))))
theorem mi_X8_isReturned_X4 : ∀ w ∈ wsX40, w ∈ wsX8_isReturned := fun _ h => (List.mem_cons_of_mem _ (List.mem_append_left _ (List.mem_append_left _ (List.mem_append_left _ (List.mem_append_left _ (List.mem_append_right _ h))))))
set_option maxHeartbeats 4000000 in
set_option maxRecDepth 100000 in
theorem c_X8_isReturned (l : Launch) (g : Gx) (hst : l.stackTraces = false) (a0 a1 a2 a3 a4 a5 a6 a7 a8 : Nat) (v0 : Int32) (v1 : ZL) (p1 : Int32) {post : Int32 → Prop} {postX : String → Prop} (h : P_X8_isReturned post postX p1 v0 v1) : ce l g yX8_isReturned wsX8_isReturned (rm_X8_isReturned) [.ref a0, .int p1] (W_X8_isReturned g a0 a1 a2 a3 a4 a5 a6 a7 a8 v0 ++ ZP g a2 v1) (fun v X1 => ∃ (r : Int32), v = some (.int r) ∧ X1 = W_X8_isReturned g a0 a1 a2 a3 a4 a5 a6 a7 a8 v0 ++ ZP g a2 v1 ∧ post r) (fun E X1 => X1 = W_X8_isReturned g a0 a1 a2 a3 a4 a5 a6 a7 a8 v0 ++ ZP g a2 v1 ∧ postX E ) := by
  refine ce_of (cc := cX8_isReturned) (nL := 2) (ret := (some .boolean)) (by decide +kernel) rfl (Nat.le_of_ble_eq_true rfl) ?_
  intro x hf hl hg hn hi hr hx
  subst hl
  subst hg
  show ww x (W_X8_isReturned (xg x) a0 a1 a2 a3 a4 a5 a6 a7 a8 v0 ++ ZP (xg x) a2 v1) [(0, .ref a0), (1, .int p1)] 0 0 0 []
  unfold P_X8_isReturned at h
  refine xw_aload_n hf (pc := 0) dX8_isReturned_0 rfl 0 rfl ?_
  refine xw_iload_n hf (pc := 1) dX8_isReturned_1 rfl 1 rfl ?_
  refine xw_callVX hf (pc := 2) (nA := 1) (Xr := []) (rest := []) (T := TX8) (c_X8_requireReceipt (xl x) (xg x) hst a0 a1 a2 a3 a4 a5 a6 a7 a8 v0 v1 p1 h) gX8_isReturned_X8_requireReceipt (by rfl) rfl rfl (by decide +kernel) ⟨⟨(Nat.le_of_ble_eq_true rfl), (Nat.le_of_ble_eq_true rfl)⟩, (Nat.le_of_ble_eq_true rfl), (Nat.le_of_ble_eq_true rfl)⟩ (Nat.le_of_ble_eq_true rfl) rfl rfl (sb_zc (sb_of [0, 1] rfl rfl)) rfl dX8_isReturned_2 (fun v X1 hp => ?_) (fun E2 X1 hp => ?_)
  · obtain ⟨r1, rfl, hi_r1, rfl, h⟩ := hp
    refine xw_X (sb_cz (sb_of [0, 1] rfl rfl)) (show ww x (W_X8_isReturned (xg x) a0 a1 a2 a3 a4 a5 a6 a7 a8 v0 ++ ZP (xg x) a2 v1) [(0, .ref a0), (1, .int p1)] 1 6 5 [.ref (lga v1 r1)] from ?_)
    refine xw_get hf (pc := 5) dX8_isReturned_5 (T := TX4) (ci := 5) mi_X8_isReturned_X4 rfl _ (ZP_at _ hi_r1) 2 (by decide) rfl mw_X8_isReturned_0 rfl ?_
    exact xw_zret hf (pc := 8) dX8_isReturned_8 hr (Nat.le_of_ble_eq_true rfl) (Nat.le_of_ble_eq_true rfl) h.1 ⟨_, rfl, rfl, h.2⟩
  · obtain ⟨rfl, h⟩ := hp
    refine xe_X (sb_cz (sb_of [0, 1] rfl rfl)) (show wx x (W_X8_isReturned (xg x) a0 a1 a2 a3 a4 a5 a6 a7 a8 v0 ++ ZP (xg x) a2 v1) [(0, .ref a0), (1, .int p1)] 1 6 2 E2 [] from ?_)
    exact xw_out hx (Nat.le_of_ble_eq_true rfl) (Nat.le_of_ble_eq_true rfl) ⟨rfl, h⟩
abbrev W_X8_takeBack (g : Gx) (a0 a1 a2 a3 a4 a5 a6 a7 a8 a9 a10 a11 a12 a13 a14 : Nat) (v0 : Nat → Int32) (v1 : Int32) (v2 : Nat → Int32) (v3 : Nat → Int32) : va_W := [(a0, .inr (8, [.ref a10, .ref a1, .ref a4, .ref a11, .ref a7])), (a1, .inr (6, [.ref a2, .ref a12, .ref a13])), (a2, .inr (3, [.ref a3])), (a3, .inl (gI g, 32, .inl v0)), (a4, .inr (1, [.ref a9, .ref a14, .ref a5, .int v1])), (a5, .inr (3, [.ref a6])), (a6, .inl (gI g, 32, .inl v2)), (a7, .inr (3, [.ref a8])), (a8, .inl (gI g, 32, .inl v3))]
abbrev rm_X8_takeBack : Room := { frames := 8, cells := 2, slots := 12, locals := 162 }
theorem mw_X8_takeBack_0 : (Cond.fieldLink RX8 40 "AnagramButcher" "incoming" "LAnagramButcher$Pile;" : Cond) ∈ wsX8_takeBack := (List.mem_cons_of_mem _ (List.mem_append_left _ (List.mem_append_left _ (List.mem_append_left _ (List.mem_append_left _ (List.mem_append_left _ (List.mem_append_left _ (List.mem_append_left _ (List.mem_append_left _ (List.mem_append_left _ (List.mem_of_getElem? (l := wsX8_takeBack_r1) (i := 3) rfl)))))))))))
theorem mw_X8_takeBack_1 : (Cond.fieldLink RX8 19 "AnagramButcher" "stock" "LAnagramButcher$Stock;" : Cond) ∈ wsX8_takeBack := (List.mem_cons_of_mem _ (List.mem_append_left _ (List.mem_append_left _ (List.mem_append_left _ (List.mem_append_left _ (List.mem_append_left _ (List.mem_append_left _ (List.mem_append_left _ (List.mem_append_left _ (List.mem_append_left _ (List.mem_of_getElem? (l := wsX8_takeBack_r1) (i := 5) rfl)))))))))))
theorem mw_X8_takeBack_2 : (Cond.fieldLink RX8 122 "AnagramButcher$Stock" "pieces" "LAnagramButcher$Pile;" : Cond) ∈ wsX8_takeBack := (List.mem_cons_of_mem _ (List.mem_append_left _ (List.mem_append_left _ (List.mem_append_left _ (List.mem_append_left _ (List.mem_append_left _ (List.mem_append_left _ (List.mem_append_left _ (List.mem_append_left _ (List.mem_append_left _ (List.mem_of_getElem? (l := wsX8_takeBack_r1) (i := 6) rfl)))))))))))
theorem mw_X8_takeBack_3 : (Cond.fieldLink RX8 26 "AnagramButcher" "accounts" "LAnagramButcher$Accounts;" : Cond) ∈ wsX8_takeBack := (List.mem_cons_of_mem _ (List.mem_append_left _ (List.mem_append_left _ (List.mem_append_left _ (List.mem_append_left _ (List.mem_append_left _ (List.mem_append_left _ (List.mem_append_left _ (List.mem_append_left _ (List.mem_append_left _ (List.mem_of_getElem? (l := wsX8_takeBack_r1) (i := 7) rfl)))))))))))
theorem mw_X8_takeBack_4 : (Cond.fieldLink RX8 221 "AnagramButcher$Receipt" "word" "J" : Cond) ∈ wsX8_takeBack := (List.mem_cons_of_mem _ (List.mem_append_left _ (List.mem_append_left _ (List.mem_append_left _ (List.mem_append_left _ (List.mem_append_left _ (List.mem_append_left _ (List.mem_append_left _ (List.mem_append_left _ (List.mem_append_left _ (List.mem_of_getElem? (l := wsX8_takeBack_r1) (i := 4) rfl)))))))))))
theorem mw_X8_takeBack_5 : (Cond.classLink RX8 52 "java/lang/IllegalStateException" : Cond) ∈ wsX8_takeBack := (List.mem_cons_of_mem _ (List.mem_append_left _ (List.mem_append_left _ (List.mem_append_left _ (List.mem_append_left _ (List.mem_append_left _ (List.mem_append_left _ (List.mem_append_left _ (List.mem_append_left _ (List.mem_append_left _ (List.mem_of_getElem? (l := wsX8_takeBack_r1) (i := 0) rfl)))))))))))
theorem mw_X8_takeBack_6 : (Cond.initialized "java/lang/IllegalStateException" : Cond) ∈ wsX8_takeBack := (List.mem_cons_of_mem _ (List.mem_append_left _ (List.mem_append_left _ (List.mem_append_left _ (List.mem_append_left _ (List.mem_append_left _ (List.mem_append_left _ (List.mem_append_left _ (List.mem_append_left _ (List.mem_append_left _ (List.mem_of_getElem? (l := wsX8_takeBack_r1) (i := 1) rfl)))))))))))
theorem mw_X8_takeBack_7 : (Cond.fieldLink RX8 230 "AnagramButcher$Receipt" "returned" "Z" : Cond) ∈ wsX8_takeBack := (List.mem_cons_of_mem _ (List.mem_append_left _ (List.mem_append_left _ (List.mem_append_left _ (List.mem_append_left _ (List.mem_append_left _ (List.mem_append_left _ (List.mem_append_left _ (List.mem_append_left _ (List.mem_append_left _ (List.mem_of_getElem? (l := wsX8_takeBack_r1) (i := 2) rfl)))))))))))
theorem mi_X8_takeBack_X8 : ∀ w ∈ wsX80, w ∈ wsX8_takeBack := fun _ h => (List.mem_cons_of_mem _ (List.mem_append_left _ (List.mem_append_left _ (List.mem_append_left _ (List.mem_append_left _ (List.mem_append_left _ (List.mem_append_left _ (List.mem_append_right _ h))))))))
theorem mi_X8_takeBack_X5 : ∀ w ∈ wsX50, w ∈ wsX8_takeBack := fun _ h => (List.mem_cons_of_mem _ (List.mem_append_left _ (List.mem_append_left _ (List.mem_append_left _ (List.mem_append_left _ (List.mem_append_left _ (List.mem_append_right _ h)))))))
theorem mi_X8_takeBack_X4 : ∀ w ∈ wsX40, w ∈ wsX8_takeBack := fun _ h => (List.mem_cons_of_mem _ (List.mem_append_left _ (List.mem_append_left _ (List.mem_append_left _ (List.mem_append_left _ (List.mem_append_left _ (List.mem_append_left _ (List.mem_append_left _ (List.mem_append_right _ h)))))))))
theorem ma_X8_takeBack_56 : ∀ w ∈ (vx_atS RX8 56 "java/lang/IllegalStateException" ["java/lang/RuntimeException", "java/lang/Exception"]).filter goodWord, w ∈ wsX8_takeBack := fun _ h => (List.mem_cons_of_mem _ (List.mem_append_left _ (List.mem_append_right _ h)))
set_option maxHeartbeats 4000000 in
set_option maxRecDepth 100000 in
theorem c_X8_takeBack (l : Launch) (g : Gx) (hst : l.stackTraces = false) (a0 a1 a2 a3 a4 a5 a6 a7 a8 a9 a10 a11 a12 a13 a14 : Nat) (v0 : Nat → Int32) (v1 : Int32) (v2 : Nat → Int32) (v3 : Nat → Int32) (v4 : ZL) (p1 : Int32) {post : Int32 → (Nat → Int32) → Int32 → (Nat → Int32) → (Nat → Int32) → ZL → Prop} {postX : String → (Nat → Int32) → Int32 → (Nat → Int32) → (Nat → Int32) → ZL → Prop} (h : P_X8_takeBack post postX p1 v0 v1 v2 v3 v4) : ce l g yX8_takeBack wsX8_takeBack (rm_X8_takeBack) [.ref a0, .int p1] (W_X8_takeBack g a0 a1 a2 a3 a4 a5 a6 a7 a8 a9 a10 a11 a12 a13 a14 v0 v1 v2 v3 ++ ZP g a9 v4) (fun v X1 => ∃ (r : Int32) (uv0 : Nat → Int32) (uv1 : Int32) (uv2 : Nat → Int32) (uv3 : Nat → Int32) (uv4 : ZL), v = some (.int r) ∧ X1 = W_X8_takeBack g a0 a1 a2 a3 a4 a5 a6 a7 a8 a9 a10 a11 a12 a13 a14 uv0 uv1 uv2 uv3 ++ ZP g a9 uv4 ∧ post r uv0 uv1 uv2 uv3 uv4) (fun E X1 => ∃ (uv0 : Nat → Int32) (uv1 : Int32) (uv2 : Nat → Int32) (uv3 : Nat → Int32) (uv4 : ZL), X1 = W_X8_takeBack g a0 a1 a2 a3 a4 a5 a6 a7 a8 a9 a10 a11 a12 a13 a14 uv0 uv1 uv2 uv3 ++ ZP g a9 uv4 ∧ postX E uv0 uv1 uv2 uv3 uv4) := by
  refine ce_of (cc := cX8_takeBack) (nL := 3) (ret := (some .int)) (by decide +kernel) rfl (Nat.le_of_ble_eq_true rfl) ?_
  intro x hf hl hg hn hi hr hx
  subst hl
  subst hg
  show ww x (W_X8_takeBack (xg x) a0 a1 a2 a3 a4 a5 a6 a7 a8 a9 a10 a11 a12 a13 a14 v0 v1 v2 v3 ++ ZP (xg x) a9 v4) [(0, .ref a0), (1, .int p1)] 0 0 0 []
  unfold P_X8_takeBack at h
  refine xw_aload_n hf (pc := 0) dX8_takeBack_0 rfl 0 rfl ?_
  refine xw_iload_n hf (pc := 1) dX8_takeBack_1 rfl 1 rfl ?_
  refine xw_callVX hf (pc := 2) (nA := 1) (Xr := [(a1, .inr (6, [.ref a2, .ref a12, .ref a13])), (a2, .inr (3, [.ref a3])), (a3, .inl (gI (xg x), 32, .inl v0)), (a5, .inr (3, [.ref a6])), (a6, .inl (gI (xg x), 32, .inl v2)), (a7, .inr (3, [.ref a8])), (a8, .inl (gI (xg x), 32, .inl v3))]) (rest := []) (T := TX8) (c_X8_requireReceipt (xl x) (xg x) hst a0 a4 a9 a10 a1 a11 a7 a14 a5 v1 v4 p1 h) gX8_takeBack_X8_requireReceipt (by rfl) rfl rfl (by decide +kernel) ⟨⟨(Nat.le_of_ble_eq_true rfl), (Nat.le_of_ble_eq_true rfl)⟩, (Nat.le_of_ble_eq_true rfl), (Nat.le_of_ble_eq_true rfl)⟩ (Nat.le_of_ble_eq_true rfl) rfl rfl (sb_zc (sb_of [0, 4, 1, 2, 3, 5, 6, 7, 8] rfl rfl)) rfl dX8_takeBack_2 (fun v X1 hp => ?_) (fun E16 X1 hp => ?_)
  · obtain ⟨r1, rfl, hi_r1, rfl, h⟩ := hp
    refine xw_X (sb_cz (sb_of [0, 2, 3, 4, 1, 5, 6, 7, 8] rfl rfl)) (show ww x (W_X8_takeBack (xg x) a0 a1 a2 a3 a4 a5 a6 a7 a8 a9 a10 a11 a12 a13 a14 v0 v1 v2 v3 ++ ZP (xg x) a9 v4) [(0, .ref a0), (1, .int p1)] 1 6 5 [.ref (lga v4 r1)] from ?_)
    refine xw_astore_n hf (pc := 5) dX8_takeBack_5 rfl [(2, .ref (lga v4 r1)), (0, .ref a0), (1, .int p1)] hn (by decide) rfl ?_
    refine xw_aload_n hf (pc := 6) dX8_takeBack_6 rfl 0 rfl ?_
    refine xw_get hf (pc := 7) dX8_takeBack_7 (T := TX4) (ci := 5) mi_X8_takeBack_X4 rfl _ (ZP_at _ hi_r1) 2 (by decide) rfl mw_X8_takeBack_7 rfl ?_
    refine xw_if_eq hf (pc := 10) dX8_takeBack_10 (c := (lrt v4 r1) = 0) Iff.rfl (tgt := 23) rfl ⟨fun c => ?_, fun c => ?_⟩
    · have h := h.1 c
      refine xw_aload_n hf (pc := 23) dX8_takeBack_23 rfl 1 rfl ?_
      refine xw_get hf (pc := 24) dX8_takeBack_24 (T := TX8) mi_X8_takeBack_X8 rfl 0 rfl 4 (by decide) rfl mw_X8_takeBack_0 rfl ?_
      refine xw_callV hf (pc := 27) (nA := 0) (Xr := [(a0, .inr (8, [.ref a10, .ref a1, .ref a4, .ref a11, .ref a7])), (a1, .inr (6, [.ref a2, .ref a12, .ref a13])), (a2, .inr (3, [.ref a3])), (a3, .inl (gI (xg x), 32, .inl v0)), (a4, .inr (1, [.ref a9, .ref a14, .ref a5, .int v1])), (a5, .inr (3, [.ref a6])), (a6, .inl (gI (xg x), 32, .inl v2))] ++ ZP (xg x) a9 v4) (rest := []) (T := TX2) (c_X2_clear (xl x) (xg x) a7 a8 v3 h) gX8_takeBack_X2_clear (by rfl) rfl rfl (by decide +kernel) ⟨⟨(Nat.le_of_ble_eq_true rfl), (Nat.le_of_ble_eq_true rfl)⟩, (Nat.le_of_ble_eq_true rfl), (Nat.le_of_ble_eq_true rfl)⟩ (Nat.le_of_ble_eq_true rfl) rfl rfl (sb_zr (sb_of [7, 8, 0, 1, 2, 3, 4, 5, 6] rfl rfl)) rfl dX8_takeBack_27 (fun v X1 hp => ?_)
      obtain ⟨w3, rfl, rfl, h⟩ := hp
      refine xw_X (sb_rz (sb_of [2, 3, 4, 5, 6, 7, 8, 0, 1] rfl rfl)) (show ww x (W_X8_takeBack (xg x) a0 a1 a2 a3 a4 a5 a6 a7 a8 a9 a10 a11 a12 a13 a14 v0 v1 v2 w3 ++ ZP (xg x) a9 v4) [(2, .ref (lga v4 r1)), (0, .ref a0), (1, .int p1)] 1 6 30 [] from ?_)
      refine xw_aload_n hf (pc := 30) dX8_takeBack_30 rfl 1 rfl ?_
      refine xw_get hf (pc := 31) dX8_takeBack_31 (T := TX8) mi_X8_takeBack_X8 rfl 0 rfl 4 (by decide) rfl mw_X8_takeBack_0 rfl ?_
      refine xw_aload_n hf (pc := 34) dX8_takeBack_34 rfl 0 rfl ?_
      refine xw_get hf (pc := 35) dX8_takeBack_35 (T := TX4) (ci := 5) mi_X8_takeBack_X4 rfl _ (ZP_at _ hi_r1) 0 (by decide) rfl mw_X8_takeBack_4 rfl ?_
      refine xw_iconst hf (pc := 38) dX8_takeBack_38 (v := 1) (by decide) ?_
      refine xw_callV hf (pc := 39) (nA := 2) (Xr := [(a0, .inr (8, [.ref a10, .ref a1, .ref a4, .ref a11, .ref a7])), (a1, .inr (6, [.ref a2, .ref a12, .ref a13])), (a2, .inr (3, [.ref a3])), (a3, .inl (gI (xg x), 32, .inl v0)), (a4, .inr (1, [.ref a9, .ref a14, .ref a5, .int v1])), (a5, .inr (3, [.ref a6])), (a6, .inl (gI (xg x), 32, .inl v2))] ++ ZP (xg x) a9 v4) (rest := []) (T := TX2) (c_X2_put (xl x) (xg x) a7 a8 w3 (lwd v4 r1) 1 h) gX8_takeBack_X2_put (by rfl) rfl rfl (by decide +kernel) ⟨⟨(Nat.le_of_ble_eq_true rfl), (Nat.le_of_ble_eq_true rfl)⟩, (Nat.le_of_ble_eq_true rfl), (Nat.le_of_ble_eq_true rfl)⟩ (Nat.le_of_ble_eq_true rfl) rfl rfl (sb_zr (sb_of [7, 8, 0, 1, 2, 3, 4, 5, 6] rfl rfl)) rfl dX8_takeBack_39 (fun v X1 hp => ?_)
      obtain ⟨w5, rfl, rfl, h⟩ := hp
      refine xw_X (sb_rz (sb_of [2, 3, 4, 5, 6, 7, 8, 0, 1] rfl rfl)) (show ww x (W_X8_takeBack (xg x) a0 a1 a2 a3 a4 a5 a6 a7 a8 a9 a10 a11 a12 a13 a14 v0 v1 v2 w5 ++ ZP (xg x) a9 v4) [(2, .ref (lga v4 r1)), (0, .ref a0), (1, .int p1)] 1 6 42 [] from ?_)
      refine xw_aload_n hf (pc := 42) dX8_takeBack_42 rfl 1 rfl ?_
      refine xw_aload_n hf (pc := 43) dX8_takeBack_43 rfl 1 rfl ?_
      refine xw_get hf (pc := 44) dX8_takeBack_44 (T := TX8) mi_X8_takeBack_X8 rfl 0 rfl 4 (by decide) rfl mw_X8_takeBack_0 rfl ?_
      refine xw_callVX hf (pc := 47) (nA := 1) (Xr := [(a4, .inr (1, [.ref a9, .ref a14, .ref a5, .int v1])), (a5, .inr (3, [.ref a6])), (a6, .inl (gI (xg x), 32, .inl v2))] ++ ZP (xg x) a9 v4) (rest := []) (T := TX8) (c_X8_requireRoom (xl x) (xg x) hst a0 a1 a2 a3 a7 a8 a10 a4 a11 a7 a12 a13 v0 w5 h) gX8_takeBack_X8_requireRoom (by rfl) rfl rfl (by decide +kernel) ⟨⟨(Nat.le_of_ble_eq_true rfl), (Nat.le_of_ble_eq_true rfl)⟩, (Nat.le_of_ble_eq_true rfl), (Nat.le_of_ble_eq_true rfl)⟩ (Nat.le_of_ble_eq_true rfl) rfl rfl (sb_zr (sb_of [0, 1, 2, 3, 7, 8, 4, 5, 6] rfl rfl)) rfl dX8_takeBack_47 (fun v X1 hp => ?_) (fun E15 X1 hp => ?_)
      · obtain ⟨rfl, rfl, h⟩ := hp
        refine xw_X (sb_rz (sb_of [0, 1, 2, 3, 6, 7, 8, 4, 5] rfl rfl)) (show ww x (W_X8_takeBack (xg x) a0 a1 a2 a3 a4 a5 a6 a7 a8 a9 a10 a11 a12 a13 a14 v0 v1 v2 w5 ++ ZP (xg x) a9 v4) [(2, .ref (lga v4 r1)), (0, .ref a0), (1, .int p1)] 2 12 50 [] from ?_)
        refine xw_aload_n hf (pc := 50) dX8_takeBack_50 rfl 1 rfl ?_
        refine xw_get hf (pc := 51) dX8_takeBack_51 (T := TX8) mi_X8_takeBack_X8 rfl 0 rfl 1 (by decide) rfl mw_X8_takeBack_1 rfl ?_
        refine xw_get hf (pc := 54) dX8_takeBack_54 (T := TX5) mi_X8_takeBack_X5 rfl 1 rfl 0 (by decide) rfl mw_X8_takeBack_2 rfl ?_
        refine xw_aload_n hf (pc := 57) dX8_takeBack_57 rfl 1 rfl ?_
        refine xw_get hf (pc := 58) dX8_takeBack_58 (T := TX8) mi_X8_takeBack_X8 rfl 0 rfl 4 (by decide) rfl mw_X8_takeBack_0 rfl ?_
        refine xw_callV hf (pc := 61) (nA := 1) (Xr := [(a0, .inr (8, [.ref a10, .ref a1, .ref a4, .ref a11, .ref a7])), (a1, .inr (6, [.ref a2, .ref a12, .ref a13])), (a4, .inr (1, [.ref a9, .ref a14, .ref a5, .int v1])), (a5, .inr (3, [.ref a6])), (a6, .inl (gI (xg x), 32, .inl v2))] ++ ZP (xg x) a9 v4) (rest := []) (T := TX2) (c_X2_putAll (xl x) (xg x) a2 a3 a7 a8 v0 w5 h) gX8_takeBack_X2_putAll (by rfl) rfl rfl (by decide +kernel) ⟨⟨(Nat.le_of_ble_eq_true rfl), (Nat.le_of_ble_eq_true rfl)⟩, (Nat.le_of_ble_eq_true rfl), (Nat.le_of_ble_eq_true rfl)⟩ (Nat.le_of_ble_eq_true rfl) rfl rfl (sb_zr (sb_of [2, 3, 7, 8, 0, 1, 4, 5, 6] rfl rfl)) rfl dX8_takeBack_61 (fun v X1 hp => ?_)
        obtain ⟨w8, rfl, rfl, h⟩ := hp
        refine xw_X (sb_rz (sb_of [4, 5, 0, 1, 6, 7, 8, 2, 3] rfl rfl)) (show ww x (W_X8_takeBack (xg x) a0 a1 a2 a3 a4 a5 a6 a7 a8 a9 a10 a11 a12 a13 a14 w8 v1 v2 w5 ++ ZP (xg x) a9 v4) [(2, .ref (lga v4 r1)), (0, .ref a0), (1, .int p1)] 2 12 64 [] from ?_)
        refine xw_aload_n hf (pc := 64) dX8_takeBack_64 rfl 1 rfl ?_
        refine xw_get hf (pc := 65) dX8_takeBack_65 (T := TX8) mi_X8_takeBack_X8 rfl 0 rfl 2 (by decide) rfl mw_X8_takeBack_3 rfl ?_
        refine xw_aload_n hf (pc := 68) dX8_takeBack_68 rfl 0 rfl ?_
        refine xw_callV hf (pc := 69) (nA := 1) (Xr := [(a0, .inr (8, [.ref a10, .ref a1, .ref a4, .ref a11, .ref a7])), (a1, .inr (6, [.ref a2, .ref a12, .ref a13])), (a2, .inr (3, [.ref a3])), (a3, .inl (gI (xg x), 32, .inl w8)), (a7, .inr (3, [.ref a8])), (a8, .inl (gI (xg x), 32, .inl w5))]) (rest := []) (T := TX0) (c_X0_giveBack (xl x) (xg x) a4 a5 a6 a9 a14 v1 v2 v4 r1 hi_r1 h) gX8_takeBack_X0_giveBack (by rfl) rfl rfl (by decide +kernel) ⟨⟨(Nat.le_of_ble_eq_true rfl), (Nat.le_of_ble_eq_true rfl)⟩, (Nat.le_of_ble_eq_true rfl), (Nat.le_of_ble_eq_true rfl)⟩ (Nat.le_of_ble_eq_true rfl) rfl rfl (sb_zc (sb_of [4, 5, 6, 0, 1, 2, 3, 7, 8] rfl rfl)) rfl dX8_takeBack_69 (fun v X1 hp => ?_)
        obtain ⟨w10, w11, w12, rfl, rfl, h⟩ := hp
        refine xw_X (sb_cz (sb_of [3, 4, 5, 6, 0, 1, 2, 7, 8] rfl rfl)) (show ww x (W_X8_takeBack (xg x) a0 a1 a2 a3 a4 a5 a6 a7 a8 a9 a10 a11 a12 a13 a14 w8 w10 w11 w5 ++ ZP (xg x) a9 w12) [(2, .ref (lga v4 r1)), (0, .ref a0), (1, .int p1)] 2 12 72 [] from ?_)
        rw [← h.1]
        have h := h.2
        refine xw_aload_n hf (pc := 72) dX8_takeBack_72 rfl 0 rfl ?_
        have hi13 := h.1
        have h := h.2
        refine xw_callVj hf (pc := 73) (nA := 0) (Xr := [(a0, .inr (8, [.ref a10, .ref a1, .ref a4, .ref a11, .ref a7])), (a1, .inr (6, [.ref a2, .ref a12, .ref a13])), (a2, .inr (3, [.ref a3])), (a3, .inl (gI (xg x), 32, .inl w8)), (a4, .inr (1, [.ref a9, .ref a14, .ref a5, .int w10])), (a5, .inr (3, [.ref a6])), (a6, .inl (gI (xg x), 32, .inl w11)), (a7, .inr (3, [.ref a8])), (a8, .inl (gI (xg x), 32, .inl w5))]) (rest := []) (T := TX4) (ci := 5) (c_X4_refund (xl x) (xg x) a9 w12 r1 hi13 h) gX8_takeBack_X4_refund (by rfl) rfl rfl (by decide +kernel) ⟨⟨(Nat.le_of_ble_eq_true rfl), (Nat.le_of_ble_eq_true rfl)⟩, (Nat.le_of_ble_eq_true rfl), (Nat.le_of_ble_eq_true rfl)⟩ (Nat.le_of_ble_eq_true rfl) rfl (ZP_at2 hi13) (sb_zc (sb_of [0, 1, 2, 3, 4, 5, 6, 7, 8] rfl rfl)) rfl dX8_takeBack_73 (fun v X1 hp => ?_)
        obtain ⟨r14, rfl, rfl, h⟩ := hp
        refine xw_X (sb_cz (sb_of [0, 1, 2, 3, 4, 5, 6, 7, 8] rfl rfl)) (show ww x (W_X8_takeBack (xg x) a0 a1 a2 a3 a4 a5 a6 a7 a8 a9 a10 a11 a12 a13 a14 w8 w10 w11 w5 ++ ZP (xg x) a9 w12) [(2, .ref (lga w12 r1)), (0, .ref a0), (1, .int p1)] 2 12 76 [.int r14] from ?_)
        exact xw_iret hf (pc := 76) dX8_takeBack_76 hr (Nat.le_of_ble_eq_true rfl) (Nat.le_of_ble_eq_true rfl) ⟨_, _, _, _, _, _, rfl, rfl, h⟩
      · obtain ⟨rfl, h⟩ := hp
        refine xe_X (sb_rz (sb_of [0, 1, 2, 3, 6, 7, 8, 4, 5] rfl rfl)) (show wx x (W_X8_takeBack (xg x) a0 a1 a2 a3 a4 a5 a6 a7 a8 a9 a10 a11 a12 a13 a14 v0 v1 v2 w5 ++ ZP (xg x) a9 v4) [(2, .ref (lga v4 r1)), (0, .ref a0), (1, .int p1)] 2 12 47 E15 [] from ?_)
        exact xw_out hx (Nat.le_of_ble_eq_true rfl) (Nat.le_of_ble_eq_true rfl) ⟨_, _, _, _, _, rfl, h⟩
    · have h := h.2 c
      exact xw_throw hf hst hx (pc := 13) (rest := []) (E := sISE) (text := "the word was returned already") mw_X8_takeBack_5 mw_X8_takeBack_6 (by decide +kernel) (by decide +kernel) ma_X8_takeBack_56 tf_56 tv_56 tw_56 dX8_takeBack_13 dX8_takeBack_16 dX8_takeBack_17 dX8_takeBack_19 dX8_takeBack_22 ⟨⟨(Nat.le_of_ble_eq_true rfl), (Nat.le_of_ble_eq_true rfl)⟩, (Nat.le_of_ble_eq_true rfl), (Nat.le_of_ble_eq_true rfl)⟩ ⟨(Nat.le_of_ble_eq_true rfl), (Nat.le_of_ble_eq_true rfl)⟩ (Nat.le_of_ble_eq_true rfl) ⟨_, _, _, _, _, rfl, h⟩
  · obtain ⟨rfl, h⟩ := hp
    refine xe_X (sb_cz (sb_of [0, 2, 3, 4, 1, 5, 6, 7, 8] rfl rfl)) (show wx x (W_X8_takeBack (xg x) a0 a1 a2 a3 a4 a5 a6 a7 a8 a9 a10 a11 a12 a13 a14 v0 v1 v2 v3 ++ ZP (xg x) a9 v4) [(0, .ref a0), (1, .int p1)] 1 6 2 E16 [] from ?_)
    exact xw_out hx (Nat.le_of_ble_eq_true rfl) (Nat.le_of_ble_eq_true rfl) ⟨_, _, _, _, _, rfl, h⟩
