abbrev W_X1_words (g : Gx) (a0 a1 a2 a3 : Nat) : va_W := [(a0, .inr (2, [.ref a1, .ref a2, .ref a3]))]
abbrev rm_X1_words : Room := { frames := 0, cells := 0, slots := 0, locals := 0 }
theorem mw_X1_words_0 : (Cond.fieldLink RX1 10 "AnagramButcher$Dictionary" "words" "LAnagramButcher$WordRow;" : Cond) ∈ wsX1_words := (List.mem_cons_of_mem _ (List.mem_append_left _ (List.mem_of_getElem? (i := 0) rfl)))
theorem mi_X1_words_X1 : ∀ w ∈ wsX10, w ∈ wsX1_words := fun _ h => (List.mem_cons_of_mem _ (List.mem_append_right _ h))
set_option maxHeartbeats 4000000 in
set_option maxRecDepth 100000 in
theorem c_X1_words (l : Launch) (g : Gx) (a0 a1 a2 a3 : Nat) {post : Prop} (h : P_X1_words post ) : cm l g yX1_words wsX1_words (rm_X1_words) [.ref a0] (W_X1_words g a0 a1 a2 a3) (fun v X1 => v = some (.ref a1) ∧ X1 = W_X1_words g a0 a1 a2 a3 ∧ post ) := by
  refine cm_of (cc := cX1_words) (nL := 1) (ret := (some (.object "AnagramButcher$WordRow"))) (by decide +kernel) rfl (Nat.le_of_ble_eq_true rfl) ?_
  intro x hf hl hg hn hi hr
  subst hl
  subst hg
  show ww x (W_X1_words (xg x) a0 a1 a2 a3) [(0, .ref a0)] 0 0 0 []
  unfold P_X1_words at h
  refine xw_aload_n hf (pc := 0) dX1_words_0 rfl 0 rfl ?_
  refine xw_get hf (pc := 1) dX1_words_1 (T := TX1) mi_X1_words_X1 rfl 0 rfl 0 (by decide) rfl mw_X1_words_0 rfl ?_
  exact xw_aret hf (pc := 4) dX1_words_4 hr (Or.inl ⟨_, rfl⟩) (Nat.le_of_ble_eq_true rfl) (Nat.le_of_ble_eq_true rfl) ⟨rfl, rfl, h⟩
abbrev W_X1_placeOf (g : Gx) (a0 a1 a2 a3 a4 : Nat) (v0 : Int32) (v1 : Nat → Int64) : va_W := [(a0, .inr (2, [.ref a1, .ref a3, .ref a4])), (a1, .inr (7, [.ref a2, .int v0])), (a2, .inl (gJ g, 60, .inr (.inl v1)))]
abbrev rm_X1_placeOf : Room := { frames := 2, cells := 0, slots := 0, locals := 43 }
theorem mw_X1_placeOf_0 : (Cond.fieldLink RX1 10 "AnagramButcher$Dictionary" "words" "LAnagramButcher$WordRow;" : Cond) ∈ wsX1_placeOf := (List.mem_cons_of_mem _ (List.mem_append_left _ (List.mem_append_left _ (List.mem_of_getElem? (i := 0) rfl))))
theorem mi_X1_placeOf_X1 : ∀ w ∈ wsX10, w ∈ wsX1_placeOf := fun _ h => (List.mem_cons_of_mem _ (List.mem_append_left _ (List.mem_append_right _ h)))
set_option maxHeartbeats 4000000 in
set_option maxRecDepth 100000 in
theorem w_X1_placeOf_L8 {x : Cx} (hf : fx x (rm_X1_placeOf) RX1 cX1_placeOf wsX1_placeOf) (hn : xn x = 6) {k0 n0 : Nat} (hk : k0 ≤ (rm_X1_placeOf).cells ∧ n0 ≤ (rm_X1_placeOf).slots) (a0 a1 a2 a3 a4 : Nat) (z3 : Int64) (v0 : Int32) (v1 : Nat → Int64) {K43 : Int32 → Prop}
    (n : Nat) (z5 : Int32) (h : P_X1_placeOf_L8 z3 v0 v1 K43 n z5)
    (hK43 : ∀ (y5 : Int32), K43 y5 → ww x (W_X1_placeOf (xg x) a0 a1 a2 a3 a4 v0 v1) [(5, .int y5)] k0 n0 43 []) :
    ww x (W_X1_placeOf (xg x) a0 a1 a2 a3 a4 v0 v1) [(0, .ref a0), (3, .long z3), (5, .int z5)] k0 n0 8 [] := by
  induction n generalizing z5 with
  | zero => exact h.elim
  | succ n ih =>
    unfold P_X1_placeOf_L8 at h
    refine xw_iload hf (pc := 8) dX1_placeOf_8 2 rfl ?_
    refine xw_aload_n hf (pc := 10) dX1_placeOf_10 rfl 0 rfl ?_
    refine xw_get hf (pc := 11) dX1_placeOf_11 (T := TX1) mi_X1_placeOf_X1 rfl 0 rfl 0 (by decide) rfl mw_X1_placeOf_0 rfl ?_
    refine xw_callV hf (pc := 14) (nA := 0) (Xr := [(a0, .inr (2, [.ref a1, .ref a3, .ref a4])), (a2, .inl (gJ (xg x), 60, .inr (.inl v1)))]) (rest := [.int z5]) (T := TX6) (c_X6_size (xl x) (xg x) a1 a2 v0 h) gX1_placeOf_X6_size (by rfl) rfl rfl (by decide +kernel) ⟨⟨(Nat.le_of_ble_eq_true rfl), (Nat.le_of_ble_eq_true rfl)⟩, hk.1, hk.2⟩ (Nat.le_of_ble_eq_true rfl) rfl rfl (sb_of [1, 0, 2] rfl rfl) rfl dX1_placeOf_14 (fun v X1 hp => ?_)
    obtain ⟨r2, rfl, rfl, h⟩ := hp
    refine xw_X (sb_of [1, 0, 2] rfl rfl) (show ww x (W_X1_placeOf (xg x) a0 a1 a2 a3 a4 v0 v1) [(0, .ref a0), (3, .long z3), (5, .int z5)] k0 n0 17 [.int r2, .int z5] from ?_)
    refine xw_icmp_ge hf (pc := 17) dX1_placeOf_17 (tgt := 43) rfl ⟨fun c => ?_, fun c => ?_⟩
    · have h := h.1 c
      refine xw_L [2] rfl ?_
      exact hK43 _ h
    · have h := h.2 c
      refine xw_aload_n hf (pc := 20) dX1_placeOf_20 rfl 0 rfl ?_
      refine xw_get hf (pc := 21) dX1_placeOf_21 (T := TX1) mi_X1_placeOf_X1 rfl 0 rfl 0 (by decide) rfl mw_X1_placeOf_0 rfl ?_
      refine xw_iload hf (pc := 24) dX1_placeOf_24 2 rfl ?_
      refine xw_callV hf (pc := 26) (nA := 1) (Xr := [(a0, .inr (2, [.ref a1, .ref a3, .ref a4]))]) (rest := []) (T := TX6) (c_X6_word (xl x) (xg x) a1 a2 v0 v1 z5 h) gX1_placeOf_X6_word (by rfl) rfl rfl (by decide +kernel) ⟨⟨(Nat.le_of_ble_eq_true rfl), (Nat.le_of_ble_eq_true rfl)⟩, hk.1, hk.2⟩ (Nat.le_of_ble_eq_true rfl) rfl rfl (sb_of [1, 2, 0] rfl rfl) rfl dX1_placeOf_26 (fun v X1 hp => ?_)
      obtain ⟨r3, rfl, rfl, h⟩ := hp
      refine xw_X (sb_of [2, 0, 1] rfl rfl) (show ww x (W_X1_placeOf (xg x) a0 a1 a2 a3 a4 v0 v1) [(0, .ref a0), (3, .long z3), (5, .int z5)] k0 n0 29 [.long r3] from ?_)
      refine xw_callS hf (pc := 29) (nA := 1) (Xr := W_X1_placeOf (xg x) a0 a1 a2 a3 a4 v0 v1) (rest := []) (c_X7_rank (xl x) (xg x) r3 h) gX1_placeOf_X7_rank (by rfl) rfl (by decide +kernel) ⟨⟨(Nat.le_of_ble_eq_true rfl), (Nat.le_of_ble_eq_true rfl)⟩, hk.1, hk.2⟩ (Nat.le_of_ble_eq_true rfl) (sb_rf _) rfl dX1_placeOf_29 (fun v X1 hp => ?_)
      obtain ⟨r4, rfl, rfl, h⟩ := hp
      show ww x (W_X1_placeOf (xg x) a0 a1 a2 a3 a4 v0 v1) [(0, .ref a0), (3, .long z3), (5, .int z5)] k0 n0 32 [.long r4]
      refine xw_lload_n hf (pc := 32) dX1_placeOf_32 rfl 1 rfl ?_
      refine xw_lcmp hf (pc := 33) dX1_placeOf_33 ?_
      refine xw_if_ge hf (pc := 34) dX1_placeOf_34 (c := z3 ≤ r4) (lc_ge _ _) (tgt := 43) rfl ⟨fun c => ?_, fun c => ?_⟩
      · have h := h.1 c
        refine xw_L [2] rfl ?_
        exact hK43 _ h
      · have h := h.2 c
        refine xw_iinc hf (pc := 37) dX1_placeOf_37 (v := z5 + 1) 2 rfl rfl [(5, .int (z5 + 1)), (0, .ref a0), (3, .long z3)] hn (by decide) rfl ?_
        refine xw_goto hf (pc := 40) dX1_placeOf_40 (tgt := 8) rfl ?_
        refine xw_L [1, 2, 0] rfl ?_
        exact ih _ h
set_option maxHeartbeats 4000000 in
set_option maxRecDepth 100000 in
theorem c_X1_placeOf (l : Launch) (g : Gx) (a0 a1 a2 a3 a4 : Nat) (v0 : Int32) (v1 : Nat → Int64) (p1 : Int64) {post : Int32 → Prop} (h : P_X1_placeOf post p1 v0 v1) : cm l g yX1_placeOf wsX1_placeOf (rm_X1_placeOf) [.ref a0, .long p1] (W_X1_placeOf g a0 a1 a2 a3 a4 v0 v1) (fun v X1 => ∃ (r : Int32), v = some (.int r) ∧ X1 = W_X1_placeOf g a0 a1 a2 a3 a4 v0 v1 ∧ post r) := by
  refine cm_of (cc := cX1_placeOf) (nL := 6) (ret := (some .int)) (by decide +kernel) rfl (Nat.le_of_ble_eq_true rfl) ?_
  intro x hf hl hg hn hi hr
  subst hl
  subst hg
  show ww x (W_X1_placeOf (xg x) a0 a1 a2 a3 a4 v0 v1) [(0, .ref a0), (1, .long p1)] 0 0 0 []
  unfold P_X1_placeOf at h
  refine xw_lload_n hf (pc := 0) dX1_placeOf_0 rfl 1 rfl ?_
  refine xw_callS hf (pc := 1) (nA := 1) (Xr := W_X1_placeOf (xg x) a0 a1 a2 a3 a4 v0 v1) (rest := []) (c_X7_rank (xl x) (xg x) p1 h) gX1_placeOf_X7_rank (by rfl) rfl (by decide +kernel) ⟨⟨(Nat.le_of_ble_eq_true rfl), (Nat.le_of_ble_eq_true rfl)⟩, (Nat.le_of_ble_eq_true rfl), (Nat.le_of_ble_eq_true rfl)⟩ (Nat.le_of_ble_eq_true rfl) (sb_rf _) rfl dX1_placeOf_1 (fun v X1 hp => ?_)
  obtain ⟨r1, rfl, rfl, h⟩ := hp
  show ww x (W_X1_placeOf (xg x) a0 a1 a2 a3 a4 v0 v1) [(0, .ref a0), (1, .long p1)] 0 0 4 [.long r1]
  refine xw_lstore_n hf (pc := 4) dX1_placeOf_4 rfl [(3, .long r1), (0, .ref a0), (1, .long p1)] hn (by decide) rfl ?_
  refine xw_iconst hf (pc := 5) dX1_placeOf_5 (v := 0) (by decide) ?_
  refine xw_istore hf (pc := 6) dX1_placeOf_6 [(5, .int 0), (3, .long r1), (0, .ref a0), (1, .long p1)] hn (by decide) rfl ?_
  refine xw_L [2, 1, 0] rfl ?_
  refine w_X1_placeOf_L8 hf hn ⟨(Nat.le_of_ble_eq_true rfl), (Nat.le_of_ble_eq_true rfl)⟩ a0 a1 a2 a3 a4 r1 v0 v1 FU _ h (fun x5 h => ?_)
  refine xw_iload hf (pc := 43) dX1_placeOf_43 0 rfl ?_
  exact xw_iret hf (pc := 45) dX1_placeOf_45 hr (Nat.le_of_ble_eq_true rfl) (Nat.le_of_ble_eq_true rfl) ⟨_, rfl, rfl, h⟩
abbrev W_X1_contains (g : Gx) (a0 a1 a2 a3 a4 : Nat) (v0 : Int32) (v1 : Nat → Int64) : va_W := [(a0, .inr (2, [.ref a1, .ref a3, .ref a4])), (a1, .inr (7, [.ref a2, .int v0])), (a2, .inl (gJ g, 60, .inr (.inl v1)))]
abbrev rm_X1_contains : Room := { frames := 3, cells := 0, slots := 0, locals := 68 }
theorem mw_X1_contains_0 : (Cond.fieldLink RX1 10 "AnagramButcher$Dictionary" "words" "LAnagramButcher$WordRow;" : Cond) ∈ wsX1_contains := (List.mem_cons_of_mem _ (List.mem_append_left _ (List.mem_append_left _ (List.mem_of_getElem? (i := 0) rfl))))
theorem mi_X1_contains_X1 : ∀ w ∈ wsX10, w ∈ wsX1_contains := fun _ h => (List.mem_cons_of_mem _ (List.mem_append_left _ (List.mem_append_right _ h)))
set_option maxHeartbeats 4000000 in
set_option maxRecDepth 100000 in
theorem c_X1_contains (l : Launch) (g : Gx) (a0 a1 a2 a3 a4 : Nat) (v0 : Int32) (v1 : Nat → Int64) (p1 : Int64) {post : Int32 → Prop} (h : P_X1_contains post p1 v0 v1) : cm l g yX1_contains wsX1_contains (rm_X1_contains) [.ref a0, .long p1] (W_X1_contains g a0 a1 a2 a3 a4 v0 v1) (fun v X1 => ∃ (r : Int32), v = some (.int r) ∧ X1 = W_X1_contains g a0 a1 a2 a3 a4 v0 v1 ∧ post r) := by
  refine cm_of (cc := cX1_contains) (nL := 3) (ret := (some .boolean)) (by decide +kernel) rfl (Nat.le_of_ble_eq_true rfl) ?_
  intro x hf hl hg hn hi hr
  subst hl
  subst hg
  show ww x (W_X1_contains (xg x) a0 a1 a2 a3 a4 v0 v1) [(0, .ref a0), (1, .long p1)] 0 0 0 []
  unfold P_X1_contains at h
  refine xw_aload_n hf (pc := 0) dX1_contains_0 rfl 0 rfl ?_
  refine xw_get hf (pc := 1) dX1_contains_1 (T := TX1) mi_X1_contains_X1 rfl 0 rfl 0 (by decide) rfl mw_X1_contains_0 rfl ?_
  refine xw_aload_n hf (pc := 4) dX1_contains_4 rfl 0 rfl ?_
  refine xw_lload_n hf (pc := 5) dX1_contains_5 rfl 1 rfl ?_
  refine xw_callV hf (pc := 6) (nA := 1) (Xr := []) (rest := [.ref a1]) (T := TX1) (c_X1_placeOf (xl x) (xg x) a0 a1 a2 a3 a4 v0 v1 p1 h) gX1_contains_X1_placeOf (by rfl) rfl rfl (by decide +kernel) ⟨⟨(Nat.le_of_ble_eq_true rfl), (Nat.le_of_ble_eq_true rfl)⟩, (Nat.le_of_ble_eq_true rfl), (Nat.le_of_ble_eq_true rfl)⟩ (Nat.le_of_ble_eq_true rfl) rfl rfl (sb_of [0, 1, 2] rfl rfl) rfl dX1_contains_6 (fun v X1 hp => ?_)
  obtain ⟨r1, rfl, rfl, h⟩ := hp
  refine xw_X (sb_of [0, 1, 2] rfl rfl) (show ww x (W_X1_contains (xg x) a0 a1 a2 a3 a4 v0 v1) [(0, .ref a0), (1, .long p1)] 0 0 9 [.int r1, .ref a1] from ?_)
  refine xw_callV hf (pc := 9) (nA := 1) (Xr := [(a0, .inr (2, [.ref a1, .ref a3, .ref a4]))]) (rest := []) (T := TX6) (c_X6_word (xl x) (xg x) a1 a2 v0 v1 r1 h) gX1_contains_X6_word (by rfl) rfl rfl (by decide +kernel) ⟨⟨(Nat.le_of_ble_eq_true rfl), (Nat.le_of_ble_eq_true rfl)⟩, (Nat.le_of_ble_eq_true rfl), (Nat.le_of_ble_eq_true rfl)⟩ (Nat.le_of_ble_eq_true rfl) rfl rfl (sb_of [1, 2, 0] rfl rfl) rfl dX1_contains_9 (fun v X1 hp => ?_)
  obtain ⟨r2, rfl, rfl, h⟩ := hp
  refine xw_X (sb_of [2, 0, 1] rfl rfl) (show ww x (W_X1_contains (xg x) a0 a1 a2 a3 a4 v0 v1) [(0, .ref a0), (1, .long p1)] 0 0 12 [.long r2] from ?_)
  refine xw_lload_n hf (pc := 12) dX1_contains_12 rfl 1 rfl ?_
  refine xw_lcmp hf (pc := 13) dX1_contains_13 ?_
  refine xw_if_ne hf (pc := 14) dX1_contains_14 (c := r2 = p1) (lc_eq _ _) (tgt := 21) rfl ⟨fun c => ?_, fun c => ?_⟩
  · have h := h.1 c
    refine xw_iconst hf (pc := 17) dX1_contains_17 (v := 1) (by decide) ?_
    refine xw_goto hf (pc := 18) dX1_contains_18 (tgt := 22) rfl ?_
    exact xw_zret hf (pc := 22) dX1_contains_22 hr (Nat.le_of_ble_eq_true rfl) (Nat.le_of_ble_eq_true rfl) rfl ⟨_, rfl, rfl, h⟩
  · have h := h.2 c
    refine xw_iconst hf (pc := 21) dX1_contains_21 (v := 0) (by decide) ?_
    exact xw_zret hf (pc := 22) dX1_contains_22 hr (Nat.le_of_ble_eq_true rfl) (Nat.le_of_ble_eq_true rfl) rfl ⟨_, rfl, rfl, h⟩
abbrev W_X1_insert (g : Gx) (a0 a1 a2 a3 a4 : Nat) (v0 : Int32) (v1 : Nat → Int64) : va_W := [(a0, .inr (2, [.ref a1, .ref a3, .ref a4])), (a1, .inr (7, [.ref a2, .int v0])), (a2, .inl (gJ g, 60, .inr (.inl v1)))]
abbrev rm_X1_insert : Room := { frames := 3, cells := 0, slots := 0, locals := 68 }
theorem mw_X1_insert_0 : (Cond.fieldLink RX1 10 "AnagramButcher$Dictionary" "words" "LAnagramButcher$WordRow;" : Cond) ∈ wsX1_insert := (List.mem_cons_of_mem _ (List.mem_append_left _ (List.mem_append_left _ (List.mem_append_left _ (List.mem_of_getElem? (l := wsX1_insert_r1) (i := 0) rfl)))))
theorem mi_X1_insert_X1 : ∀ w ∈ wsX10, w ∈ wsX1_insert := fun _ h => (List.mem_cons_of_mem _ (List.mem_append_left _ (List.mem_append_right _ h)))
set_option maxHeartbeats 4000000 in
set_option maxRecDepth 100000 in
theorem c_X1_insert (l : Launch) (g : Gx) (a0 a1 a2 a3 a4 : Nat) (v0 : Int32) (v1 : Nat → Int64) (p1 : Int64) {post : Int32 → (Nat → Int64) → Prop} (h : P_X1_insert post p1 v0 v1) : cm l g yX1_insert wsX1_insert (rm_X1_insert) [.ref a0, .long p1] (W_X1_insert g a0 a1 a2 a3 a4 v0 v1) (fun v X1 => ∃ (uv0 : Int32) (uv1 : Nat → Int64), v = none ∧ X1 = W_X1_insert g a0 a1 a2 a3 a4 uv0 uv1 ∧ post uv0 uv1) := by
  refine cm_of (cc := cX1_insert) (nL := 3) (ret := none) (by decide +kernel) rfl (Nat.le_of_ble_eq_true rfl) ?_
  intro x hf hl hg hn hi hr
  subst hl
  subst hg
  show ww x (W_X1_insert (xg x) a0 a1 a2 a3 a4 v0 v1) [(0, .ref a0), (1, .long p1)] 0 0 0 []
  unfold P_X1_insert at h
  refine xw_aload_n hf (pc := 0) dX1_insert_0 rfl 0 rfl ?_
  refine xw_get hf (pc := 1) dX1_insert_1 (T := TX1) mi_X1_insert_X1 rfl 0 rfl 0 (by decide) rfl mw_X1_insert_0 rfl ?_
  refine xw_aload_n hf (pc := 4) dX1_insert_4 rfl 0 rfl ?_
  refine xw_lload_n hf (pc := 5) dX1_insert_5 rfl 1 rfl ?_
  refine xw_callV hf (pc := 6) (nA := 1) (Xr := []) (rest := [.ref a1]) (T := TX1) (c_X1_placeOf (xl x) (xg x) a0 a1 a2 a3 a4 v0 v1 p1 h) gX1_insert_X1_placeOf (by rfl) rfl rfl (by decide +kernel) ⟨⟨(Nat.le_of_ble_eq_true rfl), (Nat.le_of_ble_eq_true rfl)⟩, (Nat.le_of_ble_eq_true rfl), (Nat.le_of_ble_eq_true rfl)⟩ (Nat.le_of_ble_eq_true rfl) rfl rfl (sb_of [0, 1, 2] rfl rfl) rfl dX1_insert_6 (fun v X1 hp => ?_)
  obtain ⟨r1, rfl, rfl, h⟩ := hp
  refine xw_X (sb_of [0, 1, 2] rfl rfl) (show ww x (W_X1_insert (xg x) a0 a1 a2 a3 a4 v0 v1) [(0, .ref a0), (1, .long p1)] 0 0 9 [.int r1, .ref a1] from ?_)
  refine xw_lload_n hf (pc := 9) dX1_insert_9 rfl 1 rfl ?_
  refine xw_callV hf (pc := 10) (nA := 2) (Xr := [(a0, .inr (2, [.ref a1, .ref a3, .ref a4]))]) (rest := []) (T := TX6) (c_X6_insert (xl x) (xg x) a1 a2 v0 v1 r1 p1 h) gX1_insert_X6_insert (by rfl) rfl rfl (by decide +kernel) ⟨⟨(Nat.le_of_ble_eq_true rfl), (Nat.le_of_ble_eq_true rfl)⟩, (Nat.le_of_ble_eq_true rfl), (Nat.le_of_ble_eq_true rfl)⟩ (Nat.le_of_ble_eq_true rfl) rfl rfl (sb_of [1, 2, 0] rfl rfl) rfl dX1_insert_10 (fun v X1 hp => ?_)
  obtain ⟨w3, w4, rfl, rfl, h⟩ := hp
  refine xw_X (sb_of [2, 0, 1] rfl rfl) (show ww x (W_X1_insert (xg x) a0 a1 a2 a3 a4 w3 w4) [(0, .ref a0), (1, .long p1)] 0 0 13 [] from ?_)
  exact xw_vret hf (pc := 13) dX1_insert_13 hr (Nat.le_of_ble_eq_true rfl) (Nat.le_of_ble_eq_true rfl) ⟨_, _, rfl, rfl, h⟩
abbrev W_X1_delete (g : Gx) (a0 a1 a2 a3 a4 : Nat) (v0 : Int32) (v1 : Nat → Int64) : va_W := [(a0, .inr (2, [.ref a1, .ref a3, .ref a4])), (a1, .inr (7, [.ref a2, .int v0])), (a2, .inl (gJ g, 60, .inr (.inl v1)))]
abbrev rm_X1_delete : Room := { frames := 3, cells := 0, slots := 0, locals := 68 }
theorem mw_X1_delete_0 : (Cond.fieldLink RX1 10 "AnagramButcher$Dictionary" "words" "LAnagramButcher$WordRow;" : Cond) ∈ wsX1_delete := (List.mem_cons_of_mem _ (List.mem_append_left _ (List.mem_append_left _ (List.mem_append_left _ (List.mem_of_getElem? (l := wsX1_delete_r1) (i := 0) rfl)))))
theorem mi_X1_delete_X1 : ∀ w ∈ wsX10, w ∈ wsX1_delete := fun _ h => (List.mem_cons_of_mem _ (List.mem_append_left _ (List.mem_append_right _ h)))
set_option maxHeartbeats 4000000 in
set_option maxRecDepth 100000 in
theorem c_X1_delete (l : Launch) (g : Gx) (a0 a1 a2 a3 a4 : Nat) (v0 : Int32) (v1 : Nat → Int64) (p1 : Int64) {post : Int32 → (Nat → Int64) → Prop} (h : P_X1_delete post p1 v0 v1) : cm l g yX1_delete wsX1_delete (rm_X1_delete) [.ref a0, .long p1] (W_X1_delete g a0 a1 a2 a3 a4 v0 v1) (fun v X1 => ∃ (uv0 : Int32) (uv1 : Nat → Int64), v = none ∧ X1 = W_X1_delete g a0 a1 a2 a3 a4 uv0 uv1 ∧ post uv0 uv1) := by
  refine cm_of (cc := cX1_delete) (nL := 3) (ret := none) (by decide +kernel) rfl (Nat.le_of_ble_eq_true rfl) ?_
  intro x hf hl hg hn hi hr
  subst hl
  subst hg
  show ww x (W_X1_delete (xg x) a0 a1 a2 a3 a4 v0 v1) [(0, .ref a0), (1, .long p1)] 0 0 0 []
  unfold P_X1_delete at h
  refine xw_aload_n hf (pc := 0) dX1_delete_0 rfl 0 rfl ?_
  refine xw_get hf (pc := 1) dX1_delete_1 (T := TX1) mi_X1_delete_X1 rfl 0 rfl 0 (by decide) rfl mw_X1_delete_0 rfl ?_
  refine xw_aload_n hf (pc := 4) dX1_delete_4 rfl 0 rfl ?_
  refine xw_lload_n hf (pc := 5) dX1_delete_5 rfl 1 rfl ?_
  refine xw_callV hf (pc := 6) (nA := 1) (Xr := []) (rest := [.ref a1]) (T := TX1) (c_X1_placeOf (xl x) (xg x) a0 a1 a2 a3 a4 v0 v1 p1 h) gX1_delete_X1_placeOf (by rfl) rfl rfl (by decide +kernel) ⟨⟨(Nat.le_of_ble_eq_true rfl), (Nat.le_of_ble_eq_true rfl)⟩, (Nat.le_of_ble_eq_true rfl), (Nat.le_of_ble_eq_true rfl)⟩ (Nat.le_of_ble_eq_true rfl) rfl rfl (sb_of [0, 1, 2] rfl rfl) rfl dX1_delete_6 (fun v X1 hp => ?_)
  obtain ⟨r1, rfl, rfl, h⟩ := hp
  refine xw_X (sb_of [0, 1, 2] rfl rfl) (show ww x (W_X1_delete (xg x) a0 a1 a2 a3 a4 v0 v1) [(0, .ref a0), (1, .long p1)] 0 0 9 [.int r1, .ref a1] from ?_)
  refine xw_callV hf (pc := 9) (nA := 1) (Xr := [(a0, .inr (2, [.ref a1, .ref a3, .ref a4]))]) (rest := []) (T := TX6) (c_X6_delete (xl x) (xg x) a1 a2 v0 v1 r1 h) gX1_delete_X6_delete (by rfl) rfl rfl (by decide +kernel) ⟨⟨(Nat.le_of_ble_eq_true rfl), (Nat.le_of_ble_eq_true rfl)⟩, (Nat.le_of_ble_eq_true rfl), (Nat.le_of_ble_eq_true rfl)⟩ (Nat.le_of_ble_eq_true rfl) rfl rfl (sb_of [1, 2, 0] rfl rfl) rfl dX1_delete_9 (fun v X1 hp => ?_)
  obtain ⟨w3, w4, rfl, rfl, h⟩ := hp
  refine xw_X (sb_of [2, 0, 1] rfl rfl) (show ww x (W_X1_delete (xg x) a0 a1 a2 a3 a4 w3 w4) [(0, .ref a0), (1, .long p1)] 0 0 12 [] from ?_)
  exact xw_vret hf (pc := 12) dX1_delete_12 hr (Nat.le_of_ble_eq_true rfl) (Nat.le_of_ble_eq_true rfl) ⟨_, _, rfl, rfl, h⟩
abbrev W_X1_search (g : Gx) (a0 a1 a2 a3 a4 a5 a6 : Nat) (v0 : Int32) (v1 : Nat → Int64) (v2 : Int32) (v3 : Nat → Int64) (v4 : Nat → Int32) : va_W := [(a0, .inr (2, [.ref a1, .ref a3, .ref a5])), (a1, .inr (7, [.ref a2, .int v0])), (a2, .inl (gJ g, 60, .inr (.inl v1))), (a3, .inr (7, [.ref a4, .int v2])), (a4, .inl (gJ g, 60, .inr (.inl v3))), (a5, .inr (3, [.ref a6])), (a6, .inl (gI g, 32, .inl v4))]
abbrev rm_X1_search : Room := { frames := 3, cells := 0, slots := 0, locals := 70 }
theorem mw_X1_search_0 : (Cond.fieldLink RX1 22 "AnagramButcher$Dictionary" "carcass" "LAnagramButcher$Pile;" : Cond) ∈ wsX1_search := (List.mem_cons_of_mem _ (List.mem_append_left _ (List.mem_append_left _ (List.mem_append_left _ (List.mem_append_left _ (List.mem_of_getElem? (l := wsX1_search_r1) (i := 0) rfl))))))
theorem mw_X1_search_1 : (Cond.fieldLink RX1 16 "AnagramButcher$Dictionary" "found" "LAnagramButcher$WordRow;" : Cond) ∈ wsX1_search := (List.mem_cons_of_mem _ (List.mem_append_left _ (List.mem_append_left _ (List.mem_append_left _ (List.mem_append_left _ (List.mem_of_getElem? (l := wsX1_search_r1) (i := 1) rfl))))))
theorem mw_X1_search_2 : (Cond.fieldLink RX1 10 "AnagramButcher$Dictionary" "words" "LAnagramButcher$WordRow;" : Cond) ∈ wsX1_search := (List.mem_cons_of_mem _ (List.mem_append_left _ (List.mem_append_left _ (List.mem_append_left _ (List.mem_append_left _ (List.mem_of_getElem? (l := wsX1_search_r1) (i := 2) rfl))))))
theorem mi_X1_search_X1 : ∀ w ∈ wsX10, w ∈ wsX1_search := fun _ h => (List.mem_cons_of_mem _ (List.mem_append_left _ (List.mem_append_left _ (List.mem_append_right _ h))))
set_option maxHeartbeats 4000000 in
set_option maxRecDepth 100000 in
theorem w_X1_search_L26 {x : Cx} (hf : fx x (rm_X1_search) RX1 cX1_search wsX1_search) (hn : xn x = 7) {k0 n0 : Nat} (hk : k0 ≤ (rm_X1_search).cells ∧ n0 ≤ (rm_X1_search).slots) (a0 a1 a2 a3 a4 a5 a6 : Nat) (z3 : Int32) (v0 : Int32) (v1 : Nat → Int64) {K85 : Int32 → (Nat → Int64) → (Nat → Int32) → Prop}
    (n : Nat) (z4 : Int32) (v2 : Int32) (v3 : Nat → Int64) (v4 : Nat → Int32) (h : P_X1_search_L26 z3 v0 v1 K85 n z4 v2 v3 v4)
    (hK85 : ∀ (uv2 : Int32), ∀ (uv3 : Nat → Int64), ∀ (uv4 : Nat → Int32), K85 uv2 uv3 uv4 → ww x (W_X1_search (xg x) a0 a1 a2 a3 a4 a5 a6 v0 v1 uv2 uv3 uv4) [(0, .ref a0)] k0 n0 85 []) :
    ww x (W_X1_search (xg x) a0 a1 a2 a3 a4 a5 a6 v0 v1 v2 v3 v4) [(0, .ref a0), (3, .int z3), (4, .int z4)] k0 n0 26 [] := by
  induction n generalizing z4 v2 v3 v4 with
  | zero => exact h.elim
  | succ n ih =>
    unfold P_X1_search_L26 at h
    refine xw_iload hf (pc := 26) dX1_search_26 2 rfl ?_
    refine xw_aload_n hf (pc := 28) dX1_search_28 rfl 0 rfl ?_
    refine xw_get hf (pc := 29) dX1_search_29 (T := TX1) mi_X1_search_X1 rfl 0 rfl 0 (by decide) rfl mw_X1_search_2 rfl ?_
    refine xw_callV hf (pc := 32) (nA := 0) (Xr := [(a0, .inr (2, [.ref a1, .ref a3, .ref a5])), (a2, .inl (gJ (xg x), 60, .inr (.inl v1))), (a3, .inr (7, [.ref a4, .int v2])), (a4, .inl (gJ (xg x), 60, .inr (.inl v3))), (a5, .inr (3, [.ref a6])), (a6, .inl (gI (xg x), 32, .inl v4))]) (rest := [.int z4]) (T := TX6) (c_X6_size (xl x) (xg x) a1 a2 v0 h) gX1_search_X6_size (by rfl) rfl rfl (by decide +kernel) ⟨⟨(Nat.le_of_ble_eq_true rfl), (Nat.le_of_ble_eq_true rfl)⟩, hk.1, hk.2⟩ (Nat.le_of_ble_eq_true rfl) rfl rfl (sb_of [1, 0, 2, 3, 4, 5, 6] rfl rfl) rfl dX1_search_32 (fun v X1 hp => ?_)
    obtain ⟨r7, rfl, rfl, h⟩ := hp
    refine xw_X (sb_of [1, 0, 2, 3, 4, 5, 6] rfl rfl) (show ww x (W_X1_search (xg x) a0 a1 a2 a3 a4 a5 a6 v0 v1 v2 v3 v4) [(0, .ref a0), (3, .int z3), (4, .int z4)] k0 n0 35 [.int r7, .int z4] from ?_)
    refine xw_icmp_ge hf (pc := 35) dX1_search_35 (tgt := 85) rfl ⟨fun c => ?_, fun c => ?_⟩
    · have h := h.1 c
      refine xw_L [0] rfl ?_
      exact hK85 _ _ _ h
    · have h := h.2 c
      refine xw_aload_n hf (pc := 38) dX1_search_38 rfl 0 rfl ?_
      refine xw_get hf (pc := 39) dX1_search_39 (T := TX1) mi_X1_search_X1 rfl 0 rfl 0 (by decide) rfl mw_X1_search_2 rfl ?_
      refine xw_iload hf (pc := 42) dX1_search_42 2 rfl ?_
      refine xw_callV hf (pc := 44) (nA := 1) (Xr := [(a0, .inr (2, [.ref a1, .ref a3, .ref a5])), (a3, .inr (7, [.ref a4, .int v2])), (a4, .inl (gJ (xg x), 60, .inr (.inl v3))), (a5, .inr (3, [.ref a6])), (a6, .inl (gI (xg x), 32, .inl v4))]) (rest := []) (T := TX6) (c_X6_word (xl x) (xg x) a1 a2 v0 v1 z4 h) gX1_search_X6_word (by rfl) rfl rfl (by decide +kernel) ⟨⟨(Nat.le_of_ble_eq_true rfl), (Nat.le_of_ble_eq_true rfl)⟩, hk.1, hk.2⟩ (Nat.le_of_ble_eq_true rfl) rfl rfl (sb_of [1, 2, 0, 3, 4, 5, 6] rfl rfl) rfl dX1_search_44 (fun v X1 hp => ?_)
      obtain ⟨r8, rfl, rfl, h⟩ := hp
      refine xw_X (sb_of [2, 0, 1, 3, 4, 5, 6] rfl rfl) (show ww x (W_X1_search (xg x) a0 a1 a2 a3 a4 a5 a6 v0 v1 v2 v3 v4) [(0, .ref a0), (3, .int z3), (4, .int z4)] k0 n0 47 [.long r8] from ?_)
      refine xw_lstore hf (pc := 47) dX1_search_47 [(5, .long r8), (0, .ref a0), (3, .int z3), (4, .int z4)] hn (by decide) rfl ?_
      refine xw_lload hf (pc := 49) dX1_search_49 0 rfl ?_
      refine xw_callS hf (pc := 51) (nA := 1) (Xr := W_X1_search (xg x) a0 a1 a2 a3 a4 a5 a6 v0 v1 v2 v3 v4) (rest := []) (c_X7_lengthOf (xl x) (xg x) r8 h) gX1_search_X7_lengthOf (by rfl) rfl (by decide +kernel) ⟨⟨(Nat.le_of_ble_eq_true rfl), (Nat.le_of_ble_eq_true rfl)⟩, hk.1, hk.2⟩ (Nat.le_of_ble_eq_true rfl) (sb_rf _) rfl dX1_search_51 (fun v X1 hp => ?_)
      obtain ⟨r9, rfl, rfl, h⟩ := hp
      show ww x (W_X1_search (xg x) a0 a1 a2 a3 a4 a5 a6 v0 v1 v2 v3 v4) [(5, .long r8), (0, .ref a0), (3, .int z3), (4, .int z4)] k0 n0 54 [.int r9]
      refine xw_iload_n hf (pc := 54) dX1_search_54 rfl 2 rfl ?_
      refine xw_icmp_lt hf (pc := 55) dX1_search_55 (tgt := 79) rfl ⟨fun c => ?_, fun c => ?_⟩
      · have h := h.1 c
        refine xw_iinc hf (pc := 79) dX1_search_79 (v := z4 + 1) 3 rfl rfl [(4, .int (z4 + 1)), (5, .long r8), (0, .ref a0), (3, .int z3)] hn (by decide) rfl ?_
        refine xw_goto hf (pc := 82) dX1_search_82 (tgt := 26) rfl ?_
        refine xw_L [2, 3, 0] rfl ?_
        exact ih _ _ _ _ h
      · have h := h.2 c
        refine xw_aload_n hf (pc := 58) dX1_search_58 rfl 1 rfl ?_
        refine xw_get hf (pc := 59) dX1_search_59 (T := TX1) mi_X1_search_X1 rfl 0 rfl 2 (by decide) rfl mw_X1_search_0 rfl ?_
        refine xw_lload hf (pc := 62) dX1_search_62 0 rfl ?_
        refine xw_callV hf (pc := 64) (nA := 1) (Xr := [(a0, .inr (2, [.ref a1, .ref a3, .ref a5])), (a1, .inr (7, [.ref a2, .int v0])), (a2, .inl (gJ (xg x), 60, .inr (.inl v1))), (a3, .inr (7, [.ref a4, .int v2])), (a4, .inl (gJ (xg x), 60, .inr (.inl v3)))]) (rest := []) (T := TX2) (c_X2_holds (xl x) (xg x) a5 a6 v4 r8 h) gX1_search_X2_holds (by rfl) rfl rfl (by decide +kernel) ⟨⟨(Nat.le_of_ble_eq_true rfl), (Nat.le_of_ble_eq_true rfl)⟩, hk.1, hk.2⟩ (Nat.le_of_ble_eq_true rfl) rfl rfl (sb_of [5, 6, 0, 1, 2, 3, 4] rfl rfl) rfl dX1_search_64 (fun v X1 hp => ?_)
        obtain ⟨r10, w11, rfl, rfl, h⟩ := hp
        refine xw_X (sb_of [2, 3, 4, 5, 6, 0, 1] rfl rfl) (show ww x (W_X1_search (xg x) a0 a1 a2 a3 a4 a5 a6 v0 v1 v2 v3 w11) [(5, .long r8), (0, .ref a0), (3, .int z3), (4, .int z4)] k0 n0 67 [.int r10] from ?_)
        refine xw_if_eq hf (pc := 67) dX1_search_67 (c := r10 = 0) Iff.rfl (tgt := 79) rfl ⟨fun c => ?_, fun c => ?_⟩
        · have h := h.1 c
          refine xw_iinc hf (pc := 79) dX1_search_79 (v := z4 + 1) 3 rfl rfl [(4, .int (z4 + 1)), (5, .long r8), (0, .ref a0), (3, .int z3)] hn (by decide) rfl ?_
          refine xw_goto hf (pc := 82) dX1_search_82 (tgt := 26) rfl ?_
          refine xw_L [2, 3, 0] rfl ?_
          exact ih _ _ _ _ h
        · have h := h.2 c
          refine xw_aload_n hf (pc := 70) dX1_search_70 rfl 1 rfl ?_
          refine xw_get hf (pc := 71) dX1_search_71 (T := TX1) mi_X1_search_X1 rfl 0 rfl 1 (by decide) rfl mw_X1_search_1 rfl ?_
          refine xw_lload hf (pc := 74) dX1_search_74 0 rfl ?_
          refine xw_callV hf (pc := 76) (nA := 1) (Xr := [(a0, .inr (2, [.ref a1, .ref a3, .ref a5])), (a1, .inr (7, [.ref a2, .int v0])), (a2, .inl (gJ (xg x), 60, .inr (.inl v1))), (a5, .inr (3, [.ref a6])), (a6, .inl (gI (xg x), 32, .inl w11))]) (rest := []) (T := TX6) (c_X6_append (xl x) (xg x) a3 a4 v2 v3 r8 h) gX1_search_X6_append (by rfl) rfl rfl (by decide +kernel) ⟨⟨(Nat.le_of_ble_eq_true rfl), (Nat.le_of_ble_eq_true rfl)⟩, hk.1, hk.2⟩ (Nat.le_of_ble_eq_true rfl) rfl rfl (sb_of [3, 4, 0, 1, 2, 5, 6] rfl rfl) rfl dX1_search_76 (fun v X1 hp => ?_)
          obtain ⟨w13, w14, rfl, rfl, h⟩ := hp
          refine xw_X (sb_of [2, 3, 4, 0, 1, 5, 6] rfl rfl) (show ww x (W_X1_search (xg x) a0 a1 a2 a3 a4 a5 a6 v0 v1 w13 w14 w11) [(5, .long r8), (0, .ref a0), (3, .int z3), (4, .int z4)] k0 n0 79 [] from ?_)
          refine xw_iinc hf (pc := 79) dX1_search_79 (v := z4 + 1) 3 rfl rfl [(4, .int (z4 + 1)), (5, .long r8), (0, .ref a0), (3, .int z3)] hn (by decide) rfl ?_
          refine xw_goto hf (pc := 82) dX1_search_82 (tgt := 26) rfl ?_
          refine xw_L [2, 3, 0] rfl ?_
          exact ih _ _ _ _ h
set_option maxHeartbeats 4000000 in
set_option maxRecDepth 100000 in
theorem c_X1_search (l : Launch) (g : Gx) (a0 a1 a2 a3 a4 a5 a6 : Nat) (v0 : Int32) (v1 : Nat → Int64) (v2 : Int32) (v3 : Nat → Int64) (v4 : Nat → Int32) (p1 : Int64) (p3 : Int32) {post : Int32 → (Nat → Int64) → (Nat → Int32) → Prop} (h : P_X1_search post p1 p3 v0 v1 v2 v3 v4) : cm l g yX1_search wsX1_search (rm_X1_search) [.ref a0, .long p1, .int p3] (W_X1_search g a0 a1 a2 a3 a4 a5 a6 v0 v1 v2 v3 v4) (fun v X1 => ∃ (uv2 : Int32) (uv3 : Nat → Int64) (uv4 : Nat → Int32), v = some (.ref a3) ∧ X1 = W_X1_search g a0 a1 a2 a3 a4 a5 a6 v0 v1 uv2 uv3 uv4 ∧ post uv2 uv3 uv4) := by
  refine cm_of (cc := cX1_search) (nL := 7) (ret := (some (.object "AnagramButcher$WordRow"))) (by decide +kernel) rfl (Nat.le_of_ble_eq_true rfl) ?_
  intro x hf hl hg hn hi hr
  subst hl
  subst hg
  show ww x (W_X1_search (xg x) a0 a1 a2 a3 a4 a5 a6 v0 v1 v2 v3 v4) [(0, .ref a0), (1, .long p1), (3, .int p3)] 0 0 0 []
  unfold P_X1_search at h
  refine xw_aload_n hf (pc := 0) dX1_search_0 rfl 0 rfl ?_
  refine xw_get hf (pc := 1) dX1_search_1 (T := TX1) mi_X1_search_X1 rfl 0 rfl 2 (by decide) rfl mw_X1_search_0 rfl ?_
  refine xw_callV hf (pc := 4) (nA := 0) (Xr := [(a0, .inr (2, [.ref a1, .ref a3, .ref a5])), (a1, .inr (7, [.ref a2, .int v0])), (a2, .inl (gJ (xg x), 60, .inr (.inl v1))), (a3, .inr (7, [.ref a4, .int v2])), (a4, .inl (gJ (xg x), 60, .inr (.inl v3)))]) (rest := []) (T := TX2) (c_X2_clear (xl x) (xg x) a5 a6 v4 h) gX1_search_X2_clear (by rfl) rfl rfl (by decide +kernel) ⟨⟨(Nat.le_of_ble_eq_true rfl), (Nat.le_of_ble_eq_true rfl)⟩, (Nat.le_of_ble_eq_true rfl), (Nat.le_of_ble_eq_true rfl)⟩ (Nat.le_of_ble_eq_true rfl) rfl rfl (sb_of [5, 6, 0, 1, 2, 3, 4] rfl rfl) rfl dX1_search_4 (fun v X1 hp => ?_)
  obtain ⟨w2, rfl, rfl, h⟩ := hp
  refine xw_X (sb_of [2, 3, 4, 5, 6, 0, 1] rfl rfl) (show ww x (W_X1_search (xg x) a0 a1 a2 a3 a4 a5 a6 v0 v1 v2 v3 w2) [(0, .ref a0), (1, .long p1), (3, .int p3)] 0 0 7 [] from ?_)
  refine xw_aload_n hf (pc := 7) dX1_search_7 rfl 0 rfl ?_
  refine xw_get hf (pc := 8) dX1_search_8 (T := TX1) mi_X1_search_X1 rfl 0 rfl 2 (by decide) rfl mw_X1_search_0 rfl ?_
  refine xw_lload_n hf (pc := 11) dX1_search_11 rfl 1 rfl ?_
  refine xw_iconst hf (pc := 12) dX1_search_12 (v := 1) (by decide) ?_
  refine xw_callV hf (pc := 13) (nA := 2) (Xr := [(a0, .inr (2, [.ref a1, .ref a3, .ref a5])), (a1, .inr (7, [.ref a2, .int v0])), (a2, .inl (gJ (xg x), 60, .inr (.inl v1))), (a3, .inr (7, [.ref a4, .int v2])), (a4, .inl (gJ (xg x), 60, .inr (.inl v3)))]) (rest := []) (T := TX2) (c_X2_put (xl x) (xg x) a5 a6 w2 p1 1 h) gX1_search_X2_put (by rfl) rfl rfl (by decide +kernel) ⟨⟨(Nat.le_of_ble_eq_true rfl), (Nat.le_of_ble_eq_true rfl)⟩, (Nat.le_of_ble_eq_true rfl), (Nat.le_of_ble_eq_true rfl)⟩ (Nat.le_of_ble_eq_true rfl) rfl rfl (sb_of [5, 6, 0, 1, 2, 3, 4] rfl rfl) rfl dX1_search_13 (fun v X1 hp => ?_)
  obtain ⟨w4, rfl, rfl, h⟩ := hp
  refine xw_X (sb_of [2, 3, 4, 5, 6, 0, 1] rfl rfl) (show ww x (W_X1_search (xg x) a0 a1 a2 a3 a4 a5 a6 v0 v1 v2 v3 w4) [(0, .ref a0), (1, .long p1), (3, .int p3)] 0 0 16 [] from ?_)
  refine xw_aload_n hf (pc := 16) dX1_search_16 rfl 0 rfl ?_
  refine xw_get hf (pc := 17) dX1_search_17 (T := TX1) mi_X1_search_X1 rfl 0 rfl 1 (by decide) rfl mw_X1_search_1 rfl ?_
  refine xw_callV hf (pc := 20) (nA := 0) (Xr := [(a0, .inr (2, [.ref a1, .ref a3, .ref a5])), (a1, .inr (7, [.ref a2, .int v0])), (a2, .inl (gJ (xg x), 60, .inr (.inl v1))), (a4, .inl (gJ (xg x), 60, .inr (.inl v3))), (a5, .inr (3, [.ref a6])), (a6, .inl (gI (xg x), 32, .inl w4))]) (rest := []) (T := TX6) (c_X6_clear (xl x) (xg x) a3 a4 v2 h) gX1_search_X6_clear (by rfl) rfl rfl (by decide +kernel) ⟨⟨(Nat.le_of_ble_eq_true rfl), (Nat.le_of_ble_eq_true rfl)⟩, (Nat.le_of_ble_eq_true rfl), (Nat.le_of_ble_eq_true rfl)⟩ (Nat.le_of_ble_eq_true rfl) rfl rfl (sb_of [3, 0, 1, 2, 4, 5, 6] rfl rfl) rfl dX1_search_20 (fun v X1 hp => ?_)
  obtain ⟨w6, rfl, rfl, h⟩ := hp
  refine xw_X (sb_of [1, 2, 3, 0, 4, 5, 6] rfl rfl) (show ww x (W_X1_search (xg x) a0 a1 a2 a3 a4 a5 a6 v0 v1 w6 v3 w4) [(0, .ref a0), (1, .long p1), (3, .int p3)] 0 0 23 [] from ?_)
  refine xw_iconst hf (pc := 23) dX1_search_23 (v := 0) (by decide) ?_
  refine xw_istore hf (pc := 24) dX1_search_24 [(4, .int 0), (0, .ref a0), (1, .long p1), (3, .int p3)] hn (by decide) rfl ?_
  refine xw_L [1, 3, 0] rfl ?_
  refine w_X1_search_L26 hf hn ⟨(Nat.le_of_ble_eq_true rfl), (Nat.le_of_ble_eq_true rfl)⟩ a0 a1 a2 a3 a4 a5 a6 p3 v0 v1 FU _ _ _ _ h (fun w15 w16 w17 h => ?_)
  refine xw_aload_n hf (pc := 85) dX1_search_85 rfl 0 rfl ?_
  refine xw_get hf (pc := 86) dX1_search_86 (T := TX1) mi_X1_search_X1 rfl 0 rfl 1 (by decide) rfl mw_X1_search_1 rfl ?_
  exact xw_aret hf (pc := 89) dX1_search_89 hr (Or.inl ⟨_, rfl⟩) (Nat.le_of_ble_eq_true rfl) (Nat.le_of_ble_eq_true rfl) ⟨_, _, _, rfl, rfl, h⟩
abbrev W_X1_fitting (g : Gx) (a0 a1 a2 a3 a4 a5 a6 : Nat) (v0 : Int32) (v1 : Nat → Int64) (v2 : Int32) (v3 : Nat → Int64) (v4 : Nat → Int32) : va_W := [(a0, .inr (2, [.ref a1, .ref a3, .ref a5])), (a1, .inr (7, [.ref a2, .int v0])), (a2, .inl (gJ g, 60, .inr (.inl v1))), (a3, .inr (7, [.ref a4, .int v2])), (a4, .inl (gJ g, 60, .inr (.inl v3))), (a5, .inr (3, [.ref a6])), (a6, .inl (gI g, 32, .inl v4))]
abbrev rm_X1_fitting : Room := { frames := 4, cells := 0, slots := 0, locals := 96 }
set_option maxHeartbeats 4000000 in
set_option maxRecDepth 100000 in
theorem c_X1_fitting (l : Launch) (g : Gx) (a0 a1 a2 a3 a4 a5 a6 : Nat) (v0 : Int32) (v1 : Nat → Int64) (v2 : Int32) (v3 : Nat → Int64) (v4 : Nat → Int32) (p1 : Int64) {post : Int32 → (Nat → Int64) → (Nat → Int32) → Prop} (h : P_X1_fitting post p1 v0 v1 v2 v3 v4) : cm l g yX1_fitting wsX1_fitting (rm_X1_fitting) [.ref a0, .long p1] (W_X1_fitting g a0 a1 a2 a3 a4 a5 a6 v0 v1 v2 v3 v4) (fun v X1 => ∃ (uv2 : Int32) (uv3 : Nat → Int64) (uv4 : Nat → Int32), v = some (.ref a3) ∧ X1 = W_X1_fitting g a0 a1 a2 a3 a4 a5 a6 v0 v1 uv2 uv3 uv4 ∧ post uv2 uv3 uv4) := by
  refine cm_of (cc := cX1_fitting) (nL := 3) (ret := (some (.object "AnagramButcher$WordRow"))) (by decide +kernel) rfl (Nat.le_of_ble_eq_true rfl) ?_
  intro x hf hl hg hn hi hr
  subst hl
  subst hg
  show ww x (W_X1_fitting (xg x) a0 a1 a2 a3 a4 a5 a6 v0 v1 v2 v3 v4) [(0, .ref a0), (1, .long p1)] 0 0 0 []
  unfold P_X1_fitting at h
  refine xw_aload_n hf (pc := 0) dX1_fitting_0 rfl 0 rfl ?_
  refine xw_lload_n hf (pc := 1) dX1_fitting_1 rfl 1 rfl ?_
  refine xw_iconst hf (pc := 2) dX1_fitting_2 (v := 1) (by decide) ?_
  refine xw_callV hf (pc := 3) (nA := 2) (Xr := []) (rest := []) (T := TX1) (c_X1_search (xl x) (xg x) a0 a1 a2 a3 a4 a5 a6 v0 v1 v2 v3 v4 p1 1 h) gX1_fitting_X1_search (by rfl) rfl rfl (by decide +kernel) ⟨⟨(Nat.le_of_ble_eq_true rfl), (Nat.le_of_ble_eq_true rfl)⟩, (Nat.le_of_ble_eq_true rfl), (Nat.le_of_ble_eq_true rfl)⟩ (Nat.le_of_ble_eq_true rfl) rfl rfl (sb_of [0, 1, 2, 3, 4, 5, 6] rfl rfl) rfl dX1_fitting_3 (fun v X1 hp => ?_)
  obtain ⟨w2, w3, w4, rfl, rfl, h⟩ := hp
  refine xw_X (sb_of [0, 1, 2, 3, 4, 5, 6] rfl rfl) (show ww x (W_X1_fitting (xg x) a0 a1 a2 a3 a4 a5 a6 v0 v1 w2 w3 w4) [(0, .ref a0), (1, .long p1)] 0 0 6 [.ref a3] from ?_)
  exact xw_aret hf (pc := 6) dX1_fitting_6 hr (Or.inl ⟨_, rfl⟩) (Nat.le_of_ble_eq_true rfl) (Nat.le_of_ble_eq_true rfl) ⟨_, _, _, rfl, rfl, h⟩
abbrev W_X1_anagrams (g : Gx) (a0 a1 a2 a3 a4 a5 a6 : Nat) (v0 : Int32) (v1 : Nat → Int64) (v2 : Int32) (v3 : Nat → Int64) (v4 : Nat → Int32) : va_W := [(a0, .inr (2, [.ref a1, .ref a3, .ref a5])), (a1, .inr (7, [.ref a2, .int v0])), (a2, .inl (gJ g, 60, .inr (.inl v1))), (a3, .inr (7, [.ref a4, .int v2])), (a4, .inl (gJ g, 60, .inr (.inl v3))), (a5, .inr (3, [.ref a6])), (a6, .inl (gI g, 32, .inl v4))]
abbrev rm_X1_anagrams : Room := { frames := 4, cells := 0, slots := 0, locals := 96 }
set_option maxHeartbeats 4000000 in
set_option maxRecDepth 100000 in
theorem c_X1_anagrams (l : Launch) (g : Gx) (a0 a1 a2 a3 a4 a5 a6 : Nat) (v0 : Int32) (v1 : Nat → Int64) (v2 : Int32) (v3 : Nat → Int64) (v4 : Nat → Int32) (p1 : Int64) {post : Int32 → (Nat → Int64) → (Nat → Int32) → Prop} (h : P_X1_anagrams post p1 v0 v1 v2 v3 v4) : cm l g yX1_anagrams wsX1_anagrams (rm_X1_anagrams) [.ref a0, .long p1] (W_X1_anagrams g a0 a1 a2 a3 a4 a5 a6 v0 v1 v2 v3 v4) (fun v X1 => ∃ (uv2 : Int32) (uv3 : Nat → Int64) (uv4 : Nat → Int32), v = some (.ref a3) ∧ X1 = W_X1_anagrams g a0 a1 a2 a3 a4 a5 a6 v0 v1 uv2 uv3 uv4 ∧ post uv2 uv3 uv4) := by
  refine cm_of (cc := cX1_anagrams) (nL := 3) (ret := (some (.object "AnagramButcher$WordRow"))) (by decide +kernel) rfl (Nat.le_of_ble_eq_true rfl) ?_
  intro x hf hl hg hn hi hr
  subst hl
  subst hg
  show ww x (W_X1_anagrams (xg x) a0 a1 a2 a3 a4 a5 a6 v0 v1 v2 v3 v4) [(0, .ref a0), (1, .long p1)] 0 0 0 []
  unfold P_X1_anagrams at h
  refine xw_aload_n hf (pc := 0) dX1_anagrams_0 rfl 0 rfl ?_
  refine xw_lload_n hf (pc := 1) dX1_anagrams_1 rfl 1 rfl ?_
  refine xw_lload_n hf (pc := 2) dX1_anagrams_2 rfl 1 rfl ?_
  refine xw_callS hf (pc := 3) (nA := 1) (Xr := W_X1_anagrams (xg x) a0 a1 a2 a3 a4 a5 a6 v0 v1 v2 v3 v4) (rest := [.long p1, .ref a0]) (c_X7_lengthOf (xl x) (xg x) p1 h) gX1_anagrams_X7_lengthOf (by rfl) rfl (by decide +kernel) ⟨⟨(Nat.le_of_ble_eq_true rfl), (Nat.le_of_ble_eq_true rfl)⟩, (Nat.le_of_ble_eq_true rfl), (Nat.le_of_ble_eq_true rfl)⟩ (Nat.le_of_ble_eq_true rfl) (sb_rf _) rfl dX1_anagrams_3 (fun v X1 hp => ?_)
  obtain ⟨r1, rfl, rfl, h⟩ := hp
  show ww x (W_X1_anagrams (xg x) a0 a1 a2 a3 a4 a5 a6 v0 v1 v2 v3 v4) [(0, .ref a0), (1, .long p1)] 0 0 6 [.int r1, .long p1, .ref a0]
  refine xw_callV hf (pc := 6) (nA := 2) (Xr := []) (rest := []) (T := TX1) (c_X1_search (xl x) (xg x) a0 a1 a2 a3 a4 a5 a6 v0 v1 v2 v3 v4 p1 r1 h) gX1_anagrams_X1_search (by rfl) rfl rfl (by decide +kernel) ⟨⟨(Nat.le_of_ble_eq_true rfl), (Nat.le_of_ble_eq_true rfl)⟩, (Nat.le_of_ble_eq_true rfl), (Nat.le_of_ble_eq_true rfl)⟩ (Nat.le_of_ble_eq_true rfl) rfl rfl (sb_of [0, 1, 2, 3, 4, 5, 6] rfl rfl) rfl dX1_anagrams_6 (fun v X1 hp => ?_)
  obtain ⟨w3, w4, w5, rfl, rfl, h⟩ := hp
  refine xw_X (sb_of [0, 1, 2, 3, 4, 5, 6] rfl rfl) (show ww x (W_X1_anagrams (xg x) a0 a1 a2 a3 a4 a5 a6 v0 v1 w3 w4 w5) [(0, .ref a0), (1, .long p1)] 0 0 9 [.ref a3] from ?_)
  exact xw_aret hf (pc := 9) dX1_anagrams_9 hr (Or.inl ⟨_, rfl⟩) (Nat.le_of_ble_eq_true rfl) (Nat.le_of_ble_eq_true rfl) ⟨_, _, _, rfl, rfl, h⟩
