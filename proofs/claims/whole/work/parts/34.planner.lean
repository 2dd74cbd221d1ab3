abbrev W_X3_best (g : Gx) (a0 a1 a2 a3 : Nat) (v0 : Int32) (v1 : Int32) : va_W := [(a0, .inr (4, [.ref a1, .ref a2, .ref a3, .int v0, .int v1]))]
abbrev rm_X3_best : Room := { frames := 0, cells := 0, slots := 0, locals := 0 }
theorem mw_X3_best_0 : (Cond.fieldLink RX3 23 "AnagramButcher$Planner" "best" "LAnagramButcher$WordRow;" : Cond) ∈ wsX3_best := (List.mem_cons_of_mem _ (List.mem_append_left _ (List.mem_of_getElem? (i := 0) rfl)))
theorem mi_X3_best_X3 : ∀ w ∈ wsX30, w ∈ wsX3_best := fun _ h => (List.mem_cons_of_mem _ (List.mem_append_right _ h))
set_option maxHeartbeats 4000000 in
set_option maxRecDepth 100000 in
theorem c_X3_best (l : Launch) (g : Gx) (a0 a1 a2 a3 : Nat) (v0 : Int32) (v1 : Int32) {post : Prop} (h : P_X3_best post v0 v1) : cm l g yX3_best wsX3_best (rm_X3_best) [.ref a0] (W_X3_best g a0 a1 a2 a3 v0 v1) (fun v X1 => v = some (.ref a3) ∧ X1 = W_X3_best g a0 a1 a2 a3 v0 v1 ∧ post ) := by
  refine cm_of (cc := cX3_best) (nL := 1) (ret := (some (.object "AnagramButcher$WordRow"))) (by decide +kernel) rfl (Nat.le_of_ble_eq_true rfl) ?_
  intro x hf hl hg hn hi hr
  subst hl
  subst hg
  show ww x (W_X3_best (xg x) a0 a1 a2 a3 v0 v1) [(0, .ref a0)] 0 0 0 []
  unfold P_X3_best at h
  refine xw_aload_n hf (pc := 0) dX3_best_0 rfl 0 rfl ?_
  refine xw_get hf (pc := 1) dX3_best_1 (T := TX3) mi_X3_best_X3 rfl 0 rfl 2 (by decide) rfl mw_X3_best_0 rfl ?_
  exact xw_aret hf (pc := 4) dX3_best_4 hr (Or.inl ⟨_, rfl⟩) (Nat.le_of_ble_eq_true rfl) (Nat.le_of_ble_eq_true rfl) ⟨rfl, rfl, h⟩
abbrev W_X3_leftovers (g : Gx) (a0 a1 a2 a3 : Nat) (v0 : Int32) (v1 : Int32) : va_W := [(a0, .inr (4, [.ref a1, .ref a2, .ref a3, .int v0, .int v1]))]
abbrev rm_X3_leftovers : Room := { frames := 0, cells := 0, slots := 0, locals := 0 }
theorem mw_X3_leftovers_0 : (Cond.fieldLink RX3 10 "AnagramButcher$Planner" "left" "LAnagramButcher$Pile;" : Cond) ∈ wsX3_leftovers := (List.mem_cons_of_mem _ (List.mem_append_left _ (List.mem_of_getElem? (i := 0) rfl)))
theorem mi_X3_leftovers_X3 : ∀ w ∈ wsX30, w ∈ wsX3_leftovers := fun _ h => (List.mem_cons_of_mem _ (List.mem_append_right _ h))
set_option maxHeartbeats 4000000 in
set_option maxRecDepth 100000 in
theorem c_X3_leftovers (l : Launch) (g : Gx) (a0 a1 a2 a3 : Nat) (v0 : Int32) (v1 : Int32) {post : Prop} (h : P_X3_leftovers post v0 v1) : cm l g yX3_leftovers wsX3_leftovers (rm_X3_leftovers) [.ref a0] (W_X3_leftovers g a0 a1 a2 a3 v0 v1) (fun v X1 => v = some (.ref a1) ∧ X1 = W_X3_leftovers g a0 a1 a2 a3 v0 v1 ∧ post ) := by
  refine cm_of (cc := cX3_leftovers) (nL := 1) (ret := (some (.object "AnagramButcher$Pile"))) (by decide +kernel) rfl (Nat.le_of_ble_eq_true rfl) ?_
  intro x hf hl hg hn hi hr
  subst hl
  subst hg
  show ww x (W_X3_leftovers (xg x) a0 a1 a2 a3 v0 v1) [(0, .ref a0)] 0 0 0 []
  unfold P_X3_leftovers at h
  refine xw_aload_n hf (pc := 0) dX3_leftovers_0 rfl 0 rfl ?_
  refine xw_get hf (pc := 1) dX3_leftovers_1 (T := TX3) mi_X3_leftovers_X3 rfl 0 rfl 0 (by decide) rfl mw_X3_leftovers_0 rfl ?_
  exact xw_aret hf (pc := 4) dX3_leftovers_4 hr (Or.inl ⟨_, rfl⟩) (Nat.le_of_ble_eq_true rfl) (Nat.le_of_ble_eq_true rfl) ⟨rfl, rfl, h⟩
abbrev W_X3_longestOf (g : Gx) (a0 a1 : Nat) (v0 : Int32) (v1 : Nat → Int64) : va_W := [(a0, .inr (7, [.ref a1, .int v0])), (a1, .inl (gJ g, 60, .inr (.inl v1)))]
abbrev rm_X3_longestOf : Room := { frames := 1, cells := 0, slots := 0, locals := 22 }
theorem mw_X3_longestOf_0 : (Cond.methodLink RX3 67 Lib.Math.max.name : Cond) ∈ wsX3_longestOf := (List.mem_cons_of_mem _ (List.mem_append_left _ (List.mem_of_getElem? (i := 0) rfl)))
theorem mw_X3_longestOf_1 : (Cond.static Lib.Math.max.name : Cond) ∈ wsX3_longestOf := (List.mem_cons_of_mem _ (List.mem_append_left _ (List.mem_of_getElem? (i := 1) rfl)))
theorem mw_X3_longestOf_2 : (Cond.initialized "java/lang/Math" : Cond) ∈ wsX3_longestOf := (List.mem_cons_of_mem _ (List.mem_append_left _ (List.mem_of_getElem? (i := 2) rfl)))
theorem mw_X3_longestOf_3 : (Cond.code Lib.Math.max.name Lib.Math.max.code 2 (some .int) : Cond) ∈ wsX3_longestOf := (List.mem_cons_of_mem _ (List.mem_append_left _ (List.mem_of_getElem? (i := 3) rfl)))
set_option maxHeartbeats 4000000 in
set_option maxRecDepth 100000 in
theorem w_X3_longestOf_L4 {x : Cx} (hf : fx x (rm_X3_longestOf) RX3 cX3_longestOf wsX3_longestOf) (hn : xn x = 3) {k0 n0 : Nat} (hk : k0 ≤ (rm_X3_longestOf).cells ∧ n0 ≤ (rm_X3_longestOf).slots) (a0 a1 : Nat) (v0 : Int32) (v1 : Nat → Int64) {K31 : Int32 → Prop}
    (n : Nat) (z1 : Int32) (z2 : Int32) (h : P_X3_longestOf_L4 v0 v1 K31 n z1 z2)
    (hK31 : ∀ (y1 : Int32), K31 y1 → ww x (W_X3_longestOf (xg x) a0 a1 v0 v1) [(1, .int y1)] k0 n0 31 []) :
    ww x (W_X3_longestOf (xg x) a0 a1 v0 v1) [(0, .ref a0), (1, .int z1), (2, .int z2)] k0 n0 4 [] := by
  induction n generalizing z1 z2 with
  | zero => exact h.elim
  | succ n ih =>
    unfold P_X3_longestOf_L4 at h
    refine xw_iload_n hf (pc := 4) dX3_longestOf_4 rfl 2 rfl ?_
    refine xw_aload_n hf (pc := 5) dX3_longestOf_5 rfl 0 rfl ?_
    refine xw_callV hf (pc := 6) (nA := 0) (Xr := [(a1, .inl (gJ (xg x), 60, .inr (.inl v1)))]) (rest := [.int z2]) (T := TX6) (c_X6_size (xl x) (xg x) a0 a1 v0 h) gX3_longestOf_X6_size (by rfl) rfl rfl (by decide +kernel) ⟨⟨(Nat.le_of_ble_eq_true rfl), (Nat.le_of_ble_eq_true rfl)⟩, hk.1, hk.2⟩ (Nat.le_of_ble_eq_true rfl) rfl rfl (sb_of [0, 1] rfl rfl) rfl dX3_longestOf_6 (fun v X1 hp => ?_)
    obtain ⟨r1, rfl, rfl, h⟩ := hp
    refine xw_X (sb_of [0, 1] rfl rfl) (show ww x (W_X3_longestOf (xg x) a0 a1 v0 v1) [(0, .ref a0), (1, .int z1), (2, .int z2)] k0 n0 9 [.int r1, .int z2] from ?_)
    refine xw_icmp_ge hf (pc := 9) dX3_longestOf_9 (tgt := 31) rfl ⟨fun c => ?_, fun c => ?_⟩
    · have h := h.1 c
      refine xw_L [1] rfl ?_
      exact hK31 _ h
    · have h := h.2 c
      refine xw_iload_n hf (pc := 12) dX3_longestOf_12 rfl 1 rfl ?_
      refine xw_aload_n hf (pc := 13) dX3_longestOf_13 rfl 0 rfl ?_
      refine xw_iload_n hf (pc := 14) dX3_longestOf_14 rfl 2 rfl ?_
      refine xw_callV hf (pc := 15) (nA := 1) (Xr := []) (rest := [.int z1]) (T := TX6) (c_X6_word (xl x) (xg x) a0 a1 v0 v1 z2 h) gX3_longestOf_X6_word (by rfl) rfl rfl (by decide +kernel) ⟨⟨(Nat.le_of_ble_eq_true rfl), (Nat.le_of_ble_eq_true rfl)⟩, hk.1, hk.2⟩ (Nat.le_of_ble_eq_true rfl) rfl rfl (sb_of [0, 1] rfl rfl) rfl dX3_longestOf_15 (fun v X1 hp => ?_)
      obtain ⟨r2, rfl, rfl, h⟩ := hp
      refine xw_X (sb_of [0, 1] rfl rfl) (show ww x (W_X3_longestOf (xg x) a0 a1 v0 v1) [(0, .ref a0), (1, .int z1), (2, .int z2)] k0 n0 18 [.long r2, .int z1] from ?_)
      refine xw_callS hf (pc := 18) (nA := 1) (Xr := W_X3_longestOf (xg x) a0 a1 v0 v1) (rest := [.int z1]) (c_X7_lengthOf (xl x) (xg x) r2 h) gX3_longestOf_X7_lengthOf (by rfl) rfl (by decide +kernel) ⟨⟨(Nat.le_of_ble_eq_true rfl), (Nat.le_of_ble_eq_true rfl)⟩, hk.1, hk.2⟩ (Nat.le_of_ble_eq_true rfl) (sb_rf _) rfl dX3_longestOf_18 (fun v X1 hp => ?_)
      obtain ⟨r3, rfl, rfl, h⟩ := hp
      show ww x (W_X3_longestOf (xg x) a0 a1 v0 v1) [(0, .ref a0), (1, .int z1), (2, .int z2)] k0 n0 21 [.int r3, .int z1]
      refine xw_max hf mw_X3_longestOf_0 mw_X3_longestOf_1 mw_X3_longestOf_2 mw_X3_longestOf_3 ⟨⟨(Nat.le_of_ble_eq_true rfl), (Nat.le_of_ble_eq_true rfl)⟩, hk.1, hk.2⟩ (Nat.le_of_ble_eq_true rfl) dX3_longestOf_21 ?_
      refine xw_topi (fun y4 ey4 => ?_)
      have h := h y4 ey4
      refine xw_istore_n hf (pc := 24) dX3_longestOf_24 rfl [(1, .int y4), (0, .ref a0), (2, .int z2)] hn (by decide) rfl ?_
      refine xw_iinc hf (pc := 25) dX3_longestOf_25 (v := z2 + 1) 2 rfl rfl [(2, .int (z2 + 1)), (1, .int y4), (0, .ref a0)] hn (by decide) rfl ?_
      refine xw_goto hf (pc := 28) dX3_longestOf_28 (tgt := 4) rfl ?_
      refine xw_L [2, 1, 0] rfl ?_
      exact ih _ _ h
set_option maxHeartbeats 4000000 in
set_option maxRecDepth 100000 in
theorem c_X3_longestOf (l : Launch) (g : Gx) (a0 a1 : Nat) (v0 : Int32) (v1 : Nat → Int64) {post : Int32 → Prop} (h : P_X3_longestOf post v0 v1) : cm l g yX3_longestOf wsX3_longestOf (rm_X3_longestOf) [.ref a0] (W_X3_longestOf g a0 a1 v0 v1) (fun v X1 => ∃ (r : Int32), v = some (.int r) ∧ X1 = W_X3_longestOf g a0 a1 v0 v1 ∧ post r) := by
  refine cm_of (cc := cX3_longestOf) (nL := 3) (ret := (some .int)) (by decide +kernel) rfl (Nat.le_of_ble_eq_true rfl) ?_
  intro x hf hl hg hn hi hr
  subst hl
  subst hg
  show ww x (W_X3_longestOf (xg x) a0 a1 v0 v1) [(0, .ref a0)] 0 0 0 []
  unfold P_X3_longestOf at h
  refine xw_iconst hf (pc := 0) dX3_longestOf_0 (v := 0) (by decide) ?_
  refine xw_istore_n hf (pc := 1) dX3_longestOf_1 rfl [(1, .int 0), (0, .ref a0)] hn (by decide) rfl ?_
  refine xw_iconst hf (pc := 2) dX3_longestOf_2 (v := 0) (by decide) ?_
  refine xw_istore_n hf (pc := 3) dX3_longestOf_3 rfl [(2, .int 0), (1, .int 0), (0, .ref a0)] hn (by decide) rfl ?_
  refine xw_L [2, 1, 0] rfl ?_
  refine w_X3_longestOf_L4 hf hn ⟨(Nat.le_of_ble_eq_true rfl), (Nat.le_of_ble_eq_true rfl)⟩ a0 a1 v0 v1 FU _ _ h (fun x5 h => ?_)
  refine xw_iload_n hf (pc := 31) dX3_longestOf_31 rfl 0 rfl ?_
  exact xw_iret hf (pc := 32) dX3_longestOf_32 hr (Nat.le_of_ble_eq_true rfl) (Nat.le_of_ble_eq_true rfl) ⟨_, rfl, rfl, h⟩
