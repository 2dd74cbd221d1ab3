abbrev W_L_addWord (g : Gx) (a0 a1 a2 a3 a4 a5 a6 a7 a8 a9 a10 : Nat) (v0 : Int32) (v1 : Nat → Int64) (v2 : Nat → Int64) : va_W := [(a0, .inr (8, [.ref a1, .ref a5, .ref a6, .ref a7, .ref a8])), (a1, .inr (2, [.ref a2, .ref a9, .ref a10])), (a2, .inr (7, [.ref a3, .int v0])), (a3, .inl (gJ g, 60, .inr (.inl v1))), (a4, .inl (gJ g, 1, .inr (.inl v2)))]
abbrev rm_L_addWord : Room := { frames := 9, cells := 2, slots := 12, locals := 143 }
theorem mw_L_addWord_0 : (Cond.classLink RL 13 "java/lang/IllegalArgumentException" : Cond) ∈ wsL_addWord := (List.mem_cons_of_mem _ (List.mem_append_left _ (List.mem_append_left _ (List.mem_append_left _ (List.mem_append_left _ (List.mem_append_left _ (List.mem_append_left _ (List.mem_of_getElem? (l := wsL_addWord_r1) (i := 0) rfl))))))))
theorem mw_L_addWord_1 : (Cond.classLink RL 15 "java/lang/IllegalStateException" : Cond) ∈ wsL_addWord := (List.mem_cons_of_mem _ (List.mem_append_left _ (List.mem_append_left _ (List.mem_append_left _ (List.mem_append_left _ (List.mem_append_left _ (List.mem_append_left _ (List.mem_of_getElem? (l := wsL_addWord_r1) (i := 1) rfl))))))))
set_option maxHeartbeats 4000000 in
set_option maxRecDepth 100000 in
theorem c_L_addWord (l : Launch) (g : Gx) (hst : l.stackTraces = false) (a0 a1 a2 a3 a4 a5 a6 a7 a8 a9 a10 : Nat) (v0 : Int32) (v1 : Nat → Int64) (v2 : Nat → Int64) (p1 : Int64) {post : Int32 → Int32 → (Nat → Int64) → (Nat → Int64) → Prop} (h : P_L_addWord post p1 v0 v1 v2) : cm l g yL_addWord wsL_addWord (rm_L_addWord) [.ref a0, .long p1, .ref a4] (W_L_addWord g a0 a1 a2 a3 a4 a5 a6 a7 a8 a9 a10 v0 v1 v2) (fun v X1 => ∃ (r : Int32) (uv0 : Int32) (uv1 : Nat → Int64) (uv2 : Nat → Int64), v = some (.int r) ∧ X1 = W_L_addWord g a0 a1 a2 a3 a4 a5 a6 a7 a8 a9 a10 uv0 uv1 uv2 ∧ post r uv0 uv1 uv2) := by
  refine cmW_of (cc := cL_addWord) (nL := 5) (ret := (some .int)) (hh := [(0, 9, 12, 13), (0, 9, 16, 15)]) (by decide +kernel) rfl (Nat.le_of_ble_eq_true rfl) ?_
  intro x hf hl hg hn hi hr tb
  subst hl
  subst hg
  show ww x (W_L_addWord (xg x) a0 a1 a2 a3 a4 a5 a6 a7 a8 a9 a10 v0 v1 v2) [(0, .ref a0), (1, .long p1), (3, .ref a4)] 0 0 0 []
  unfold P_L_addWord at h
  refine xw_aload_n hf (pc := 0) dL_addWord_0 rfl 2 rfl ?_
  refine xw_iconst hf (pc := 1) dL_addWord_1 (v := 0) (by decide) ?_
  refine xw_aload_n hf (pc := 2) dL_addWord_2 rfl 0 rfl ?_
  refine xw_lload_n hf (pc := 3) dL_addWord_3 rfl 1 rfl ?_
  refine xw_callVX hf (pc := 4) (nA := 1) (Xr := [(a4, .inl (gJ (xg x), 1, .inr (.inl v2)))]) (rest := [.int 0, .ref a4]) (T := TX8) (c_X8_addWord (xl x) (xg x) hst a0 a1 a2 a3 a5 a6 a7 a8 a9 a10 v0 v1 p1 h) gL_addWord_X8_addWord (by rfl) rfl rfl (by decide +kernel) ⟨⟨(Nat.le_of_ble_eq_true rfl), (Nat.le_of_ble_eq_true rfl)⟩, (Nat.le_of_ble_eq_true rfl), (Nat.le_of_ble_eq_true rfl)⟩ (Nat.le_of_ble_eq_true rfl) rfl rfl (sb_of [0, 1, 2, 3, 4] rfl rfl) rfl dL_addWord_4 (fun v X1 hp => ?_) (fun E6 X1 hp => ?_)
  · obtain ⟨r1, w2, w3, rfl, rfl, h⟩ := hp
    refine xw_X (sb_of [0, 1, 2, 3, 4] rfl rfl) (show ww x (W_L_addWord (xg x) a0 a1 a2 a3 a4 a5 a6 a7 a8 a9 a10 w2 w3 v2) [(0, .ref a0), (1, .long p1), (3, .ref a4)] 2 12 7 [.int r1, .int 0, .ref a4] from ?_)
    refine xw_i2l hf (pc := 7) dL_addWord_7 ?_
    refine xw_last hf (pc := 8) dL_addWord_8 4 rfl h.1 (W_L_addWord (xg x) a0 a1 a2 a3 a4 a5 a6 a7 a8 a9 a10 w2 w3 (vp_updL v2 (0 : Int32).toNatClampNeg r1.toInt64)) rfl ?_
    have h := h.2
    refine xw_goto hf (pc := 9) dL_addWord_9 (tgt := 20) rfl ?_
    refine xw_iconst hf (pc := 20) dL_addWord_20 (v := 0) (by decide) ?_
    exact xw_iret hf (pc := 21) dL_addWord_21 hr (Nat.le_of_ble_eq_true rfl) (Nat.le_of_ble_eq_true rfl) ⟨_, _, _, _, rfl, rfl, h⟩
  · obtain ⟨w4, w5, rfl, h⟩ := hp
    refine xe_X (sb_of [0, 1, 2, 3, 4] rfl rfl) (show wx x (W_L_addWord (xg x) a0 a1 a2 a3 a4 a5 a6 a7 a8 a9 a10 w4 w5 v2) [(0, .ref a0), (1, .long p1), (3, .ref a4)] 2 12 4 E6 [.int 0, .ref a4] from ?_)
    rcases h with ⟨rfl, h⟩ | ⟨rfl, h⟩
    · refine xw_catchA hf tb rfl (by decide) mw_L_addWord_0 ((fav hf).1 _ (List.mem_of_getElem? (i := 0) rfl)) (fun q7 => ?_)
      refine xw_astore hf (pc := 12) dL_addWord_12 [(4, .ref q7), (0, .ref a0), (1, .long p1), (3, .ref a4)] hn (by decide) rfl ?_
      refine xw_iconst hf (pc := 14) dL_addWord_14 (v := 1) (by decide) ?_
      exact xw_iret hf (pc := 15) dL_addWord_15 hr (Nat.le_of_ble_eq_true rfl) (Nat.le_of_ble_eq_true rfl) ⟨_, _, _, _, rfl, rfl, h⟩
    · refine xw_catchB hf tb (by decide) mw_L_addWord_0 ((fav hf).2.2.2.2.2.1 _ (List.mem_of_getElem? (i := 0) rfl)) rfl (by decide) mw_L_addWord_1 ((fav hf).1 _ (List.mem_of_getElem? (i := 1) rfl)) (fun q8 => ?_)
      refine xw_astore hf (pc := 16) dL_addWord_16 [(4, .ref q8), (0, .ref a0), (1, .long p1), (3, .ref a4)] hn (by decide) rfl ?_
      refine xw_iconst hf (pc := 18) dL_addWord_18 (v := 2) (by decide) ?_
      exact xw_iret hf (pc := 19) dL_addWord_19 hr (Nat.le_of_ble_eq_true rfl) (Nat.le_of_ble_eq_true rfl) ⟨_, _, _, _, rfl, rfl, h⟩
abbrev W_L_removeWord (g : Gx) (a0 a1 a2 a3 a4 a5 a6 a7 a8 a9 a10 : Nat) (v0 : Int32) (v1 : Nat → Int64) (v2 : Nat → Int64) : va_W := [(a0, .inr (8, [.ref a1, .ref a5, .ref a6, .ref a7, .ref a8])), (a1, .inr (2, [.ref a2, .ref a9, .ref a10])), (a2, .inr (7, [.ref a3, .int v0])), (a3, .inl (gJ g, 60, .inr (.inl v1))), (a4, .inl (gJ g, 1, .inr (.inl v2)))]
abbrev rm_L_removeWord : Room := { frames := 9, cells := 2, slots := 12, locals := 143 }
theorem mw_L_removeWord_0 : (Cond.classLink RL 13 "java/lang/IllegalArgumentException" : Cond) ∈ wsL_removeWord := (List.mem_cons_of_mem _ (List.mem_append_left _ (List.mem_append_left _ (List.mem_append_left _ (List.mem_append_left _ (List.mem_append_left _ (List.mem_append_left _ (List.mem_of_getElem? (l := wsL_removeWord_r1) (i := 0) rfl))))))))
theorem mw_L_removeWord_1 : (Cond.classLink RL 20 "java/util/NoSuchElementException" : Cond) ∈ wsL_removeWord := (List.mem_cons_of_mem _ (List.mem_append_left _ (List.mem_append_left _ (List.mem_append_left _ (List.mem_append_left _ (List.mem_append_left _ (List.mem_append_left _ (List.mem_of_getElem? (l := wsL_removeWord_r1) (i := 1) rfl))))))))
set_option maxHeartbeats 4000000 in
set_option maxRecDepth 100000 in
theorem c_L_removeWord (l : Launch) (g : Gx) (hst : l.stackTraces = false) (a0 a1 a2 a3 a4 a5 a6 a7 a8 a9 a10 : Nat) (v0 : Int32) (v1 : Nat → Int64) (v2 : Nat → Int64) (p1 : Int64) {post : Int32 → Int32 → (Nat → Int64) → (Nat → Int64) → Prop} (h : P_L_removeWord post p1 v0 v1 v2) : cm l g yL_removeWord wsL_removeWord (rm_L_removeWord) [.ref a0, .long p1, .ref a4] (W_L_removeWord g a0 a1 a2 a3 a4 a5 a6 a7 a8 a9 a10 v0 v1 v2) (fun v X1 => ∃ (r : Int32) (uv0 : Int32) (uv1 : Nat → Int64) (uv2 : Nat → Int64), v = some (.int r) ∧ X1 = W_L_removeWord g a0 a1 a2 a3 a4 a5 a6 a7 a8 a9 a10 uv0 uv1 uv2 ∧ post r uv0 uv1 uv2) := by
  refine cmW_of (cc := cL_removeWord) (nL := 5) (ret := (some .int)) (hh := [(0, 9, 12, 13), (0, 9, 16, 20)]) (by decide +kernel) rfl (Nat.le_of_ble_eq_true rfl) ?_
  intro x hf hl hg hn hi hr tb
  subst hl
  subst hg
  show ww x (W_L_removeWord (xg x) a0 a1 a2 a3 a4 a5 a6 a7 a8 a9 a10 v0 v1 v2) [(0, .ref a0), (1, .long p1), (3, .ref a4)] 0 0 0 []
  unfold P_L_removeWord at h
  refine xw_aload_n hf (pc := 0) dL_removeWord_0 rfl 2 rfl ?_
  refine xw_iconst hf (pc := 1) dL_removeWord_1 (v := 0) (by decide) ?_
  refine xw_aload_n hf (pc := 2) dL_removeWord_2 rfl 0 rfl ?_
  refine xw_lload_n hf (pc := 3) dL_removeWord_3 rfl 1 rfl ?_
  refine xw_callVX hf (pc := 4) (nA := 1) (Xr := [(a4, .inl (gJ (xg x), 1, .inr (.inl v2)))]) (rest := [.int 0, .ref a4]) (T := TX8) (c_X8_removeWord (xl x) (xg x) hst a0 a1 a2 a3 a5 a6 a7 a8 a9 a10 v0 v1 p1 h) gL_removeWord_X8_removeWord (by rfl) rfl rfl (by decide +kernel) ⟨⟨(Nat.le_of_ble_eq_true rfl), (Nat.le_of_ble_eq_true rfl)⟩, (Nat.le_of_ble_eq_true rfl), (Nat.le_of_ble_eq_true rfl)⟩ (Nat.le_of_ble_eq_true rfl) rfl rfl (sb_of [0, 1, 2, 3, 4] rfl rfl) rfl dL_removeWord_4 (fun v X1 hp => ?_) (fun E6 X1 hp => ?_)
  · obtain ⟨r1, w2, w3, rfl, rfl, h⟩ := hp
    refine xw_X (sb_of [0, 1, 2, 3, 4] rfl rfl) (show ww x (W_L_removeWord (xg x) a0 a1 a2 a3 a4 a5 a6 a7 a8 a9 a10 w2 w3 v2) [(0, .ref a0), (1, .long p1), (3, .ref a4)] 2 12 7 [.int r1, .int 0, .ref a4] from ?_)
    refine xw_i2l hf (pc := 7) dL_removeWord_7 ?_
    refine xw_last hf (pc := 8) dL_removeWord_8 4 rfl h.1 (W_L_removeWord (xg x) a0 a1 a2 a3 a4 a5 a6 a7 a8 a9 a10 w2 w3 (vp_updL v2 (0 : Int32).toNatClampNeg r1.toInt64)) rfl ?_
    have h := h.2
    refine xw_goto hf (pc := 9) dL_removeWord_9 (tgt := 20) rfl ?_
    refine xw_iconst hf (pc := 20) dL_removeWord_20 (v := 0) (by decide) ?_
    exact xw_iret hf (pc := 21) dL_removeWord_21 hr (Nat.le_of_ble_eq_true rfl) (Nat.le_of_ble_eq_true rfl) ⟨_, _, _, _, rfl, rfl, h⟩
  · obtain ⟨w4, w5, rfl, h⟩ := hp
    refine xe_X (sb_of [0, 1, 2, 3, 4] rfl rfl) (show wx x (W_L_removeWord (xg x) a0 a1 a2 a3 a4 a5 a6 a7 a8 a9 a10 w4 w5 v2) [(0, .ref a0), (1, .long p1), (3, .ref a4)] 2 12 4 E6 [.int 0, .ref a4] from ?_)
    rcases h with ⟨rfl, h⟩ | ⟨rfl, h⟩
    · refine xw_catchA hf tb rfl (by decide) mw_L_removeWord_0 ((fav hf).1 _ (List.mem_of_getElem? (i := 0) rfl)) (fun q7 => ?_)
      refine xw_astore hf (pc := 12) dL_removeWord_12 [(4, .ref q7), (0, .ref a0), (1, .long p1), (3, .ref a4)] hn (by decide) rfl ?_
      refine xw_iconst hf (pc := 14) dL_removeWord_14 (v := 1) (by decide) ?_
      exact xw_iret hf (pc := 15) dL_removeWord_15 hr (Nat.le_of_ble_eq_true rfl) (Nat.le_of_ble_eq_true rfl) ⟨_, _, _, _, rfl, rfl, h⟩
    · refine xw_catchB hf tb (by decide) mw_L_removeWord_0 ((fav hf).2.2.2.2.2.1 _ (List.mem_of_getElem? (i := 1) rfl)) rfl (by decide) mw_L_removeWord_1 ((fav hf).1 _ (List.mem_of_getElem? (i := 2) rfl)) (fun q8 => ?_)
      refine xw_astore hf (pc := 16) dL_removeWord_16 [(4, .ref q8), (0, .ref a0), (1, .long p1), (3, .ref a4)] hn (by decide) rfl ?_
      refine xw_iconst hf (pc := 18) dL_removeWord_18 (v := 2) (by decide) ?_
      exact xw_iret hf (pc := 19) dL_removeWord_19 hr (Nat.le_of_ble_eq_true rfl) (Nat.le_of_ble_eq_true rfl) ⟨_, _, _, _, rfl, rfl, h⟩
abbrev W_L_wordAt (g : Gx) (a0 a1 a2 a3 a4 a5 a6 a7 a8 a9 a10 : Nat) (v0 : Int32) (v1 : Nat → Int64) (v2 : Nat → Int64) : va_W := [(a0, .inr (8, [.ref a1, .ref a5, .ref a6, .ref a7, .ref a8])), (a1, .inr (2, [.ref a2, .ref a9, .ref a10])), (a2, .inr (7, [.ref a3, .int v0])), (a3, .inl (gJ g, 60, .inr (.inl v1))), (a4, .inl (gJ g, 1, .inr (.inl v2)))]
abbrev rm_L_wordAt : Room := { frames := 9, cells := 1, slots := 6, locals := 142 }
theorem mw_L_wordAt_0 : (Cond.classLink RL 26 "java/lang/IndexOutOfBoundsException" : Cond) ∈ wsL_wordAt := (List.mem_cons_of_mem _ (List.mem_append_left _ (List.mem_append_left _ (List.mem_append_left _ (List.mem_append_left _ (List.mem_append_left _ (List.mem_of_getElem? (l := wsL_wordAt_r1) (i := 0) rfl)))))))
set_option maxHeartbeats 4000000 in
set_option maxRecDepth 100000 in
theorem c_L_wordAt (l : Launch) (g : Gx) (hst : l.stackTraces = false) (a0 a1 a2 a3 a4 a5 a6 a7 a8 a9 a10 : Nat) (v0 : Int32) (v1 : Nat → Int64) (v2 : Nat → Int64) (p1 : Int32) {post : Int32 → (Nat → Int64) → Prop} (h : P_L_wordAt post p1 v0 v1 v2) : cm l g yL_wordAt wsL_wordAt (rm_L_wordAt) [.ref a0, .int p1, .ref a4] (W_L_wordAt g a0 a1 a2 a3 a4 a5 a6 a7 a8 a9 a10 v0 v1 v2) (fun v X1 => ∃ (r : Int32) (uv2 : Nat → Int64), v = some (.int r) ∧ X1 = W_L_wordAt g a0 a1 a2 a3 a4 a5 a6 a7 a8 a9 a10 v0 v1 uv2 ∧ post r uv2) := by
  refine cmW_of (cc := cL_wordAt) (nL := 4) (ret := (some .int)) (hh := [(0, 8, 11, 26)]) (by decide +kernel) rfl (Nat.le_of_ble_eq_true rfl) ?_
  intro x hf hl hg hn hi hr tb
  subst hl
  subst hg
  show ww x (W_L_wordAt (xg x) a0 a1 a2 a3 a4 a5 a6 a7 a8 a9 a10 v0 v1 v2) [(0, .ref a0), (1, .int p1), (2, .ref a4)] 0 0 0 []
  unfold P_L_wordAt at h
  refine xw_aload_n hf (pc := 0) dL_wordAt_0 rfl 2 rfl ?_
  refine xw_iconst hf (pc := 1) dL_wordAt_1 (v := 0) (by decide) ?_
  refine xw_aload_n hf (pc := 2) dL_wordAt_2 rfl 0 rfl ?_
  refine xw_iload_n hf (pc := 3) dL_wordAt_3 rfl 1 rfl ?_
  refine xw_callVX hf (pc := 4) (nA := 1) (Xr := [(a4, .inl (gJ (xg x), 1, .inr (.inl v2)))]) (rest := [.int 0, .ref a4]) (T := TX8) (c_X8_wordAt (xl x) (xg x) hst a0 a1 a2 a3 a5 a6 a7 a8 a9 a10 v0 v1 p1 h) gL_wordAt_X8_wordAt (by rfl) rfl rfl (by decide +kernel) ⟨⟨(Nat.le_of_ble_eq_true rfl), (Nat.le_of_ble_eq_true rfl)⟩, (Nat.le_of_ble_eq_true rfl), (Nat.le_of_ble_eq_true rfl)⟩ (Nat.le_of_ble_eq_true rfl) rfl rfl (sb_of [0, 1, 2, 3, 4] rfl rfl) rfl dL_wordAt_4 (fun v X1 hp => ?_) (fun E2 X1 hp => ?_)
  · obtain ⟨r1, rfl, rfl, h⟩ := hp
    refine xw_X (sb_of [0, 1, 2, 3, 4] rfl rfl) (show ww x (W_L_wordAt (xg x) a0 a1 a2 a3 a4 a5 a6 a7 a8 a9 a10 v0 v1 v2) [(0, .ref a0), (1, .int p1), (2, .ref a4)] 1 6 7 [.long r1, .int 0, .ref a4] from ?_)
    refine xw_last hf (pc := 7) dL_wordAt_7 4 rfl h.1 (W_L_wordAt (xg x) a0 a1 a2 a3 a4 a5 a6 a7 a8 a9 a10 v0 v1 (vp_updL v2 (0 : Int32).toNatClampNeg r1)) rfl ?_
    have h := h.2
    refine xw_goto hf (pc := 8) dL_wordAt_8 (tgt := 14) rfl ?_
    refine xw_iconst hf (pc := 14) dL_wordAt_14 (v := 0) (by decide) ?_
    exact xw_iret hf (pc := 15) dL_wordAt_15 hr (Nat.le_of_ble_eq_true rfl) (Nat.le_of_ble_eq_true rfl) ⟨_, _, rfl, rfl, h⟩
  · obtain ⟨rfl, h⟩ := hp
    refine xe_X (sb_of [0, 1, 2, 3, 4] rfl rfl) (show wx x (W_L_wordAt (xg x) a0 a1 a2 a3 a4 a5 a6 a7 a8 a9 a10 v0 v1 v2) [(0, .ref a0), (1, .int p1), (2, .ref a4)] 1 6 4 E2 [.int 0, .ref a4] from ?_)
    obtain ⟨rfl, h⟩ := h
    refine xw_catchA hf tb rfl (by decide) mw_L_wordAt_0 ((fav hf).1 _ (List.mem_of_getElem? (i := 3) rfl)) (fun q3 => ?_)
    refine xw_astore_n hf (pc := 11) dL_wordAt_11 rfl [(3, .ref q3), (0, .ref a0), (1, .int p1), (2, .ref a4)] hn (by decide) rfl ?_
    refine xw_iconst hf (pc := 12) dL_wordAt_12 (v := 1) (by decide) ?_
    exact xw_iret hf (pc := 13) dL_wordAt_13 hr (Nat.le_of_ble_eq_true rfl) (Nat.le_of_ble_eq_true rfl) ⟨_, _, rfl, rfl, h⟩
abbrev W_L_hasWord (g : Gx) (a0 a1 a2 a3 a4 a5 a6 a7 a8 a9 a10 : Nat) (v0 : Int32) (v1 : Nat → Int64) (v2 : Nat → Int64) : va_W := [(a0, .inr (8, [.ref a1, .ref a5, .ref a6, .ref a7, .ref a8])), (a1, .inr (2, [.ref a2, .ref a9, .ref a10])), (a2, .inr (7, [.ref a3, .int v0])), (a3, .inl (gJ g, 60, .inr (.inl v1))), (a4, .inl (gJ g, 1, .inr (.inl v2)))]
abbrev rm_L_hasWord : Room := { frames := 9, cells := 1, slots := 6, locals := 143 }
theorem mw_L_hasWord_0 : (Cond.classLink RL 13 "java/lang/IllegalArgumentException" : Cond) ∈ wsL_hasWord := (List.mem_cons_of_mem _ (List.mem_append_left _ (List.mem_append_left _ (List.mem_append_left _ (List.mem_append_left _ (List.mem_append_left _ (List.mem_of_getElem? (l := wsL_hasWord_r1) (i := 0) rfl)))))))
set_option maxHeartbeats 4000000 in
set_option maxRecDepth 100000 in
theorem c_L_hasWord (l : Launch) (g : Gx) (hst : l.stackTraces = false) (a0 a1 a2 a3 a4 a5 a6 a7 a8 a9 a10 : Nat) (v0 : Int32) (v1 : Nat → Int64) (v2 : Nat → Int64) (p1 : Int64) {post : Int32 → (Nat → Int64) → Prop} (h : P_L_hasWord post p1 v0 v1 v2) : cm l g yL_hasWord wsL_hasWord (rm_L_hasWord) [.ref a0, .long p1, .ref a4] (W_L_hasWord g a0 a1 a2 a3 a4 a5 a6 a7 a8 a9 a10 v0 v1 v2) (fun v X1 => ∃ (r : Int32) (uv2 : Nat → Int64), v = some (.int r) ∧ X1 = W_L_hasWord g a0 a1 a2 a3 a4 a5 a6 a7 a8 a9 a10 v0 v1 uv2 ∧ post r uv2) := by
  refine cmW_of (cc := cL_hasWord) (nL := 5) (ret := (some .int)) (hh := [(0, 16, 19, 13)]) (by decide +kernel) rfl (Nat.le_of_ble_eq_true rfl) ?_
  intro x hf hl hg hn hi hr tb
  subst hl
  subst hg
  show ww x (W_L_hasWord (xg x) a0 a1 a2 a3 a4 a5 a6 a7 a8 a9 a10 v0 v1 v2) [(0, .ref a0), (1, .long p1), (3, .ref a4)] 0 0 0 []
  unfold P_L_hasWord at h
  refine xw_aload_n hf (pc := 0) dL_hasWord_0 rfl 2 rfl ?_
  refine xw_iconst hf (pc := 1) dL_hasWord_1 (v := 0) (by decide) ?_
  refine xw_aload_n hf (pc := 2) dL_hasWord_2 rfl 0 rfl ?_
  refine xw_lload_n hf (pc := 3) dL_hasWord_3 rfl 1 rfl ?_
  refine xw_callVX hf (pc := 4) (nA := 1) (Xr := [(a4, .inl (gJ (xg x), 1, .inr (.inl v2)))]) (rest := [.int 0, .ref a4]) (T := TX8) (c_X8_hasWord (xl x) (xg x) hst a0 a1 a2 a3 a5 a6 a7 a8 a9 a10 v0 v1 p1 h) gL_hasWord_X8_hasWord (by rfl) rfl rfl (by decide +kernel) ⟨⟨(Nat.le_of_ble_eq_true rfl), (Nat.le_of_ble_eq_true rfl)⟩, (Nat.le_of_ble_eq_true rfl), (Nat.le_of_ble_eq_true rfl)⟩ (Nat.le_of_ble_eq_true rfl) rfl rfl (sb_of [0, 1, 2, 3, 4] rfl rfl) rfl dL_hasWord_4 (fun v X1 hp => ?_) (fun E2 X1 hp => ?_)
  · obtain ⟨r1, rfl, rfl, h⟩ := hp
    refine xw_X (sb_of [0, 1, 2, 3, 4] rfl rfl) (show ww x (W_L_hasWord (xg x) a0 a1 a2 a3 a4 a5 a6 a7 a8 a9 a10 v0 v1 v2) [(0, .ref a0), (1, .long p1), (3, .ref a4)] 1 6 7 [.int r1, .int 0, .ref a4] from ?_)
    refine xw_if_eq hf (pc := 7) dL_hasWord_7 (c := r1 = 0) Iff.rfl (tgt := 14) rfl ⟨fun c => ?_, fun c => ?_⟩
    · have h := h.1 c
      refine xw_lconst hf (pc := 14) dL_hasWord_14 (v := 0) (by decide) ?_
      refine xw_last hf (pc := 15) dL_hasWord_15 4 rfl h.1 (W_L_hasWord (xg x) a0 a1 a2 a3 a4 a5 a6 a7 a8 a9 a10 v0 v1 (vp_updL v2 (0 : Int32).toNatClampNeg 0)) rfl ?_
      have h := h.2
      refine xw_goto hf (pc := 16) dL_hasWord_16 (tgt := 23) rfl ?_
      refine xw_iconst hf (pc := 23) dL_hasWord_23 (v := 0) (by decide) ?_
      exact xw_iret hf (pc := 24) dL_hasWord_24 hr (Nat.le_of_ble_eq_true rfl) (Nat.le_of_ble_eq_true rfl) ⟨_, _, rfl, rfl, h⟩
    · have h := h.2 c
      refine xw_lconst hf (pc := 10) dL_hasWord_10 (v := 1) (by decide) ?_
      refine xw_goto hf (pc := 11) dL_hasWord_11 (tgt := 15) rfl ?_
      refine xw_last hf (pc := 15) dL_hasWord_15 4 rfl h.1 (W_L_hasWord (xg x) a0 a1 a2 a3 a4 a5 a6 a7 a8 a9 a10 v0 v1 (vp_updL v2 (0 : Int32).toNatClampNeg 1)) rfl ?_
      have h := h.2
      refine xw_goto hf (pc := 16) dL_hasWord_16 (tgt := 23) rfl ?_
      refine xw_iconst hf (pc := 23) dL_hasWord_23 (v := 0) (by decide) ?_
      exact xw_iret hf (pc := 24) dL_hasWord_24 hr (Nat.le_of_ble_eq_true rfl) (Nat.le_of_ble_eq_true rfl) ⟨_, _, rfl, rfl, h⟩
  · obtain ⟨rfl, h⟩ := hp
    refine xe_X (sb_of [0, 1, 2, 3, 4] rfl rfl) (show wx x (W_L_hasWord (xg x) a0 a1 a2 a3 a4 a5 a6 a7 a8 a9 a10 v0 v1 v2) [(0, .ref a0), (1, .long p1), (3, .ref a4)] 1 6 4 E2 [.int 0, .ref a4] from ?_)
    obtain ⟨rfl, h⟩ := h
    refine xw_catchA hf tb rfl (by decide) mw_L_hasWord_0 ((fav hf).1 _ (List.mem_of_getElem? (i := 0) rfl)) (fun q3 => ?_)
    refine xw_astore hf (pc := 19) dL_hasWord_19 [(4, .ref q3), (0, .ref a0), (1, .long p1), (3, .ref a4)] hn (by decide) rfl ?_
    refine xw_iconst hf (pc := 21) dL_hasWord_21 (v := 1) (by decide) ?_
    exact xw_iret hf (pc := 22) dL_hasWord_22 hr (Nat.le_of_ble_eq_true rfl) (Nat.le_of_ble_eq_true rfl) ⟨_, _, rfl, rfl, h⟩
abbrev W_L_anagramCount (g : Gx) (a0 a1 a2 a3 a4 a5 a6 a7 a8 a9 a10 a11 a12 : Nat) (v0 : Int32) (v1 : Nat → Int64) (v2 : Int32) (v3 : Nat → Int64) (v4 : Nat → Int32) (v5 : Nat → Int64) : va_W := [(a0, .inr (8, [.ref a1, .ref a9, .ref a10, .ref a11, .ref a12])), (a1, .inr (2, [.ref a2, .ref a4, .ref a6])), (a2, .inr (7, [.ref a3, .int v0])), (a3, .inl (gJ g, 60, .inr (.inl v1))), (a4, .inr (7, [.ref a5, .int v2])), (a5, .inl (gJ g, 60, .inr (.inl v3))), (a6, .inr (3, [.ref a7])), (a7, .inl (gI g, 32, .inl v4)), (a8, .inl (gJ g, 1, .inr (.inl v5)))]
abbrev rm_L_anagramCount : Room := { frames := 9, cells := 1, slots := 6, locals := 143 }
theorem mw_L_anagramCount_0 : (Cond.classLink RL 13 "java/lang/IllegalArgumentException" : Cond) ∈ wsL_anagramCount := (List.mem_cons_of_mem _ (List.mem_append_left _ (List.mem_append_left _ (List.mem_append_left _ (List.mem_append_left _ (List.mem_append_left _ (List.mem_append_left _ (List.mem_of_getElem? (l := wsL_anagramCount_r1) (i := 0) rfl))))))))
set_option maxHeartbeats 4000000 in
set_option maxRecDepth 100000 in
theorem c_L_anagramCount (l : Launch) (g : Gx) (hst : l.stackTraces = false) (a0 a1 a2 a3 a4 a5 a6 a7 a8 a9 a10 a11 a12 : Nat) (v0 : Int32) (v1 : Nat → Int64) (v2 : Int32) (v3 : Nat → Int64) (v4 : Nat → Int32) (v5 : Nat → Int64) (p1 : Int64) {post : Int32 → Int32 → (Nat → Int64) → (Nat → Int32) → (Nat → Int64) → Prop} (h : P_L_anagramCount post p1 v0 v1 v2 v3 v4 v5) : cm l g yL_anagramCount wsL_anagramCount (rm_L_anagramCount) [.ref a0, .long p1, .ref a8] (W_L_anagramCount g a0 a1 a2 a3 a4 a5 a6 a7 a8 a9 a10 a11 a12 v0 v1 v2 v3 v4 v5) (fun v X1 => ∃ (r : Int32) (uv2 : Int32) (uv3 : Nat → Int64) (uv4 : Nat → Int32) (uv5 : Nat → Int64), v = some (.int r) ∧ X1 = W_L_anagramCount g a0 a1 a2 a3 a4 a5 a6 a7 a8 a9 a10 a11 a12 v0 v1 uv2 uv3 uv4 uv5 ∧ post r uv2 uv3 uv4 uv5) := by
  refine cmW_of (cc := cL_anagramCount) (nL := 5) (ret := (some .int)) (hh := [(0, 9, 12, 13)]) (by decide +kernel) rfl (Nat.le_of_ble_eq_true rfl) ?_
  intro x hf hl hg hn hi hr tb
  subst hl
  subst hg
  show ww x (W_L_anagramCount (xg x) a0 a1 a2 a3 a4 a5 a6 a7 a8 a9 a10 a11 a12 v0 v1 v2 v3 v4 v5) [(0, .ref a0), (1, .long p1), (3, .ref a8)] 0 0 0 []
  unfold P_L_anagramCount at h
  refine xw_aload_n hf (pc := 0) dL_anagramCount_0 rfl 2 rfl ?_
  refine xw_iconst hf (pc := 1) dL_anagramCount_1 (v := 0) (by decide) ?_
  refine xw_aload_n hf (pc := 2) dL_anagramCount_2 rfl 0 rfl ?_
  refine xw_lload_n hf (pc := 3) dL_anagramCount_3 rfl 1 rfl ?_
  refine xw_callVX hf (pc := 4) (nA := 1) (Xr := [(a8, .inl (gJ (xg x), 1, .inr (.inl v5)))]) (rest := [.int 0, .ref a8]) (T := TX8) (c_X8_anagramCount (xl x) (xg x) hst a0 a1 a2 a3 a4 a5 a6 a7 a9 a10 a11 a12 v0 v1 v2 v3 v4 p1 h) gL_anagramCount_X8_anagramCount (by rfl) rfl rfl (by decide +kernel) ⟨⟨(Nat.le_of_ble_eq_true rfl), (Nat.le_of_ble_eq_true rfl)⟩, (Nat.le_of_ble_eq_true rfl), (Nat.le_of_ble_eq_true rfl)⟩ (Nat.le_of_ble_eq_true rfl) rfl rfl (sb_of [0, 1, 2, 3, 4, 5, 6, 7, 8] rfl rfl) rfl dL_anagramCount_4 (fun v X1 hp => ?_) (fun E8 X1 hp => ?_)
  · obtain ⟨r1, w2, w3, w4, rfl, rfl, h⟩ := hp
    refine xw_X (sb_of [0, 1, 2, 3, 4, 5, 6, 7, 8] rfl rfl) (show ww x (W_L_anagramCount (xg x) a0 a1 a2 a3 a4 a5 a6 a7 a8 a9 a10 a11 a12 v0 v1 w2 w3 w4 v5) [(0, .ref a0), (1, .long p1), (3, .ref a8)] 1 6 7 [.int r1, .int 0, .ref a8] from ?_)
    refine xw_i2l hf (pc := 7) dL_anagramCount_7 ?_
    refine xw_last hf (pc := 8) dL_anagramCount_8 8 rfl h.1 (W_L_anagramCount (xg x) a0 a1 a2 a3 a4 a5 a6 a7 a8 a9 a10 a11 a12 v0 v1 w2 w3 w4 (vp_updL v5 (0 : Int32).toNatClampNeg r1.toInt64)) rfl ?_
    have h := h.2
    refine xw_goto hf (pc := 9) dL_anagramCount_9 (tgt := 16) rfl ?_
    refine xw_iconst hf (pc := 16) dL_anagramCount_16 (v := 0) (by decide) ?_
    exact xw_iret hf (pc := 17) dL_anagramCount_17 hr (Nat.le_of_ble_eq_true rfl) (Nat.le_of_ble_eq_true rfl) ⟨_, _, _, _, _, rfl, rfl, h⟩
  · obtain ⟨w5, w6, w7, rfl, h⟩ := hp
    refine xe_X (sb_of [0, 1, 2, 3, 4, 5, 6, 7, 8] rfl rfl) (show wx x (W_L_anagramCount (xg x) a0 a1 a2 a3 a4 a5 a6 a7 a8 a9 a10 a11 a12 v0 v1 w5 w6 w7 v5) [(0, .ref a0), (1, .long p1), (3, .ref a8)] 1 6 4 E8 [.int 0, .ref a8] from ?_)
    obtain ⟨rfl, h⟩ := h
    refine xw_catchA hf tb rfl (by decide) mw_L_anagramCount_0 ((fav hf).1 _ (List.mem_of_getElem? (i := 0) rfl)) (fun q9 => ?_)
    refine xw_astore hf (pc := 12) dL_anagramCount_12 [(4, .ref q9), (0, .ref a0), (1, .long p1), (3, .ref a8)] hn (by decide) rfl ?_
    refine xw_iconst hf (pc := 14) dL_anagramCount_14 (v := 1) (by decide) ?_
    exact xw_iret hf (pc := 15) dL_anagramCount_15 hr (Nat.le_of_ble_eq_true rfl) (Nat.le_of_ble_eq_true rfl) ⟨_, _, _, _, _, rfl, rfl, h⟩
abbrev W_L_anagramAt (g : Gx) (a0 a1 a2 a3 a4 a5 a6 a7 a8 a9 a10 a11 a12 : Nat) (v0 : Int32) (v1 : Nat → Int64) (v2 : Int32) (v3 : Nat → Int64) (v4 : Nat → Int32) (v5 : Nat → Int64) : va_W := [(a0, .inr (8, [.ref a1, .ref a9, .ref a10, .ref a11, .ref a12])), (a1, .inr (2, [.ref a2, .ref a4, .ref a6])), (a2, .inr (7, [.ref a3, .int v0])), (a3, .inl (gJ g, 60, .inr (.inl v1))), (a4, .inr (7, [.ref a5, .int v2])), (a5, .inl (gJ g, 60, .inr (.inl v3))), (a6, .inr (3, [.ref a7])), (a7, .inl (gI g, 32, .inl v4)), (a8, .inl (gJ g, 1, .inr (.inl v5)))]
abbrev rm_L_anagramAt : Room := { frames := 9, cells := 2, slots := 12, locals := 144 }
theorem mw_L_anagramAt_0 : (Cond.classLink RL 13 "java/lang/IllegalArgumentException" : Cond) ∈ wsL_anagramAt := (List.mem_cons_of_mem _ (List.mem_append_left _ (List.mem_append_left _ (List.mem_append_left _ (List.mem_append_left _ (List.mem_append_left _ (List.mem_append_left _ (List.mem_append_left _ (List.mem_of_getElem? (l := wsL_anagramAt_r1) (i := 0) rfl)))))))))
theorem mw_L_anagramAt_1 : (Cond.classLink RL 26 "java/lang/IndexOutOfBoundsException" : Cond) ∈ wsL_anagramAt := (List.mem_cons_of_mem _ (List.mem_append_left _ (List.mem_append_left _ (List.mem_append_left _ (List.mem_append_left _ (List.mem_append_left _ (List.mem_append_left _ (List.mem_append_left _ (List.mem_of_getElem? (l := wsL_anagramAt_r1) (i := 1) rfl)))))))))
set_option maxHeartbeats 4000000 in
set_option maxRecDepth 100000 in
theorem c_L_anagramAt (l : Launch) (g : Gx) (hst : l.stackTraces = false) (a0 a1 a2 a3 a4 a5 a6 a7 a8 a9 a10 a11 a12 : Nat) (v0 : Int32) (v1 : Nat → Int64) (v2 : Int32) (v3 : Nat → Int64) (v4 : Nat → Int32) (v5 : Nat → Int64) (p1 : Int64) (p3 : Int32) {post : Int32 → Int32 → (Nat → Int64) → (Nat → Int32) → (Nat → Int64) → Prop} (h : P_L_anagramAt post p1 p3 v0 v1 v2 v3 v4 v5) : cm l g yL_anagramAt wsL_anagramAt (rm_L_anagramAt) [.ref a0, .long p1, .int p3, .ref a8] (W_L_anagramAt g a0 a1 a2 a3 a4 a5 a6 a7 a8 a9 a10 a11 a12 v0 v1 v2 v3 v4 v5) (fun v X1 => ∃ (r : Int32) (uv2 : Int32) (uv3 : Nat → Int64) (uv4 : Nat → Int32) (uv5 : Nat → Int64), v = some (.int r) ∧ X1 = W_L_anagramAt g a0 a1 a2 a3 a4 a5 a6 a7 a8 a9 a10 a11 a12 v0 v1 uv2 uv3 uv4 uv5 ∧ post r uv2 uv3 uv4 uv5) := by
  refine cmW_of (cc := cL_anagramAt) (nL := 6) (ret := (some .int)) (hh := [(0, 10, 13, 13), (0, 10, 17, 26)]) (by decide +kernel) rfl (Nat.le_of_ble_eq_true rfl) ?_
  intro x hf hl hg hn hi hr tb
  subst hl
  subst hg
  show ww x (W_L_anagramAt (xg x) a0 a1 a2 a3 a4 a5 a6 a7 a8 a9 a10 a11 a12 v0 v1 v2 v3 v4 v5) [(0, .ref a0), (1, .long p1), (3, .int p3), (4, .ref a8)] 0 0 0 []
  unfold P_L_anagramAt at h
  refine xw_aload hf (pc := 0) dL_anagramAt_0 3 rfl ?_
  refine xw_iconst hf (pc := 2) dL_anagramAt_2 (v := 0) (by decide) ?_
  refine xw_aload_n hf (pc := 3) dL_anagramAt_3 rfl 0 rfl ?_
  refine xw_lload_n hf (pc := 4) dL_anagramAt_4 rfl 1 rfl ?_
  refine xw_iload_n hf (pc := 5) dL_anagramAt_5 rfl 2 rfl ?_
  refine xw_callVX hf (pc := 6) (nA := 2) (Xr := [(a8, .inl (gJ (xg x), 1, .inr (.inl v5)))]) (rest := [.int 0, .ref a8]) (T := TX8) (c_X8_anagramAt (xl x) (xg x) hst a0 a1 a2 a3 a4 a5 a6 a7 a9 a10 a11 a12 v0 v1 v2 v3 v4 p1 p3 h) gL_anagramAt_X8_anagramAt (by rfl) rfl rfl (by decide +kernel) ⟨⟨(Nat.le_of_ble_eq_true rfl), (Nat.le_of_ble_eq_true rfl)⟩, (Nat.le_of_ble_eq_true rfl), (Nat.le_of_ble_eq_true rfl)⟩ (Nat.le_of_ble_eq_true rfl) rfl rfl (sb_of [0, 1, 2, 3, 4, 5, 6, 7, 8] rfl rfl) rfl dL_anagramAt_6 (fun v X1 hp => ?_) (fun E8 X1 hp => ?_)
  · obtain ⟨r1, w2, w3, w4, rfl, rfl, h⟩ := hp
    refine xw_X (sb_of [0, 1, 2, 3, 4, 5, 6, 7, 8] rfl rfl) (show ww x (W_L_anagramAt (xg x) a0 a1 a2 a3 a4 a5 a6 a7 a8 a9 a10 a11 a12 v0 v1 w2 w3 w4 v5) [(0, .ref a0), (1, .long p1), (3, .int p3), (4, .ref a8)] 2 12 9 [.long r1, .int 0, .ref a8] from ?_)
    refine xw_last hf (pc := 9) dL_anagramAt_9 8 rfl h.1 (W_L_anagramAt (xg x) a0 a1 a2 a3 a4 a5 a6 a7 a8 a9 a10 a11 a12 v0 v1 w2 w3 w4 (vp_updL v5 (0 : Int32).toNatClampNeg r1)) rfl ?_
    have h := h.2
    refine xw_goto hf (pc := 10) dL_anagramAt_10 (tgt := 21) rfl ?_
    refine xw_iconst hf (pc := 21) dL_anagramAt_21 (v := 0) (by decide) ?_
    exact xw_iret hf (pc := 22) dL_anagramAt_22 hr (Nat.le_of_ble_eq_true rfl) (Nat.le_of_ble_eq_true rfl) ⟨_, _, _, _, _, rfl, rfl, h⟩
  · obtain ⟨w5, w6, w7, rfl, h⟩ := hp
    refine xe_X (sb_of [0, 1, 2, 3, 4, 5, 6, 7, 8] rfl rfl) (show wx x (W_L_anagramAt (xg x) a0 a1 a2 a3 a4 a5 a6 a7 a8 a9 a10 a11 a12 v0 v1 w5 w6 w7 v5) [(0, .ref a0), (1, .long p1), (3, .int p3), (4, .ref a8)] 2 12 6 E8 [.int 0, .ref a8] from ?_)
    rcases h with ⟨rfl, h⟩ | ⟨rfl, h⟩
    · refine xw_catchA hf tb rfl (by decide) mw_L_anagramAt_0 ((fav hf).1 _ (List.mem_of_getElem? (i := 0) rfl)) (fun q9 => ?_)
      refine xw_astore hf (pc := 13) dL_anagramAt_13 [(5, .ref q9), (0, .ref a0), (1, .long p1), (3, .int p3), (4, .ref a8)] hn (by decide) rfl ?_
      refine xw_iconst hf (pc := 15) dL_anagramAt_15 (v := 1) (by decide) ?_
      exact xw_iret hf (pc := 16) dL_anagramAt_16 hr (Nat.le_of_ble_eq_true rfl) (Nat.le_of_ble_eq_true rfl) ⟨_, _, _, _, _, rfl, rfl, h⟩
    · refine xw_catchB hf tb (by decide) mw_L_anagramAt_0 ((fav hf).2.2.2.2.2.1 _ (List.mem_of_getElem? (i := 2) rfl)) rfl (by decide) mw_L_anagramAt_1 ((fav hf).1 _ (List.mem_of_getElem? (i := 3) rfl)) (fun q10 => ?_)
      refine xw_astore hf (pc := 17) dL_anagramAt_17 [(5, .ref q10), (0, .ref a0), (1, .long p1), (3, .int p3), (4, .ref a8)] hn (by decide) rfl ?_
      refine xw_iconst hf (pc := 19) dL_anagramAt_19 (v := 2) (by decide) ?_
      exact xw_iret hf (pc := 20) dL_anagramAt_20 hr (Nat.le_of_ble_eq_true rfl) (Nat.le_of_ble_eq_true rfl) ⟨_, _, _, _, _, rfl, rfl, h⟩
abbrev W_L_fittingCount (g : Gx) (a0 a1 a2 a3 a4 a5 a6 a7 a8 a9 a10 a11 a12 : Nat) (v0 : Int32) (v1 : Nat → Int64) (v2 : Int32) (v3 : Nat → Int64) (v4 : Nat → Int32) (v5 : Nat → Int64) : va_W := [(a0, .inr (8, [.ref a1, .ref a9, .ref a10, .ref a11, .ref a12])), (a1, .inr (2, [.ref a2, .ref a4, .ref a6])), (a2, .inr (7, [.ref a3, .int v0])), (a3, .inl (gJ g, 60, .inr (.inl v1))), (a4, .inr (7, [.ref a5, .int v2])), (a5, .inl (gJ g, 60, .inr (.inl v3))), (a6, .inr (3, [.ref a7])), (a7, .inl (gI g, 32, .inl v4)), (a8, .inl (gJ g, 1, .inr (.inl v5)))]
abbrev rm_L_fittingCount : Room := { frames := 9, cells := 1, slots := 6, locals := 143 }
theorem mw_L_fittingCount_0 : (Cond.classLink RL 13 "java/lang/IllegalArgumentException" : Cond) ∈ wsL_fittingCount := (List.mem_cons_of_mem _ (List.mem_append_left _ (List.mem_append_left _ (List.mem_append_left _ (List.mem_append_left _ (List.mem_append_left _ (List.mem_append_left _ (List.mem_of_getElem? (l := wsL_fittingCount_r1) (i := 0) rfl))))))))
set_option maxHeartbeats 4000000 in
set_option maxRecDepth 100000 in
theorem c_L_fittingCount (l : Launch) (g : Gx) (hst : l.stackTraces = false) (a0 a1 a2 a3 a4 a5 a6 a7 a8 a9 a10 a11 a12 : Nat) (v0 : Int32) (v1 : Nat → Int64) (v2 : Int32) (v3 : Nat → Int64) (v4 : Nat → Int32) (v5 : Nat → Int64) (p1 : Int64) {post : Int32 → Int32 → (Nat → Int64) → (Nat → Int32) → (Nat → Int64) → Prop} (h : P_L_fittingCount post p1 v0 v1 v2 v3 v4 v5) : cm l g yL_fittingCount wsL_fittingCount (rm_L_fittingCount) [.ref a0, .long p1, .ref a8] (W_L_fittingCount g a0 a1 a2 a3 a4 a5 a6 a7 a8 a9 a10 a11 a12 v0 v1 v2 v3 v4 v5) (fun v X1 => ∃ (r : Int32) (uv2 : Int32) (uv3 : Nat → Int64) (uv4 : Nat → Int32) (uv5 : Nat → Int64), v = some (.int r) ∧ X1 = W_L_fittingCount g a0 a1 a2 a3 a4 a5 a6 a7 a8 a9 a10 a11 a12 v0 v1 uv2 uv3 uv4 uv5 ∧ post r uv2 uv3 uv4 uv5) := by
  refine cmW_of (cc := cL_fittingCount) (nL := 5) (ret := (some .int)) (hh := [(0, 9, 12, 13)]) (by decide +kernel) rfl (Nat.le_of_ble_eq_true rfl) ?_
  intro x hf hl hg hn hi hr tb
  subst hl
  subst hg
  show ww x (W_L_fittingCount (xg x) a0 a1 a2 a3 a4 a5 a6 a7 a8 a9 a10 a11 a12 v0 v1 v2 v3 v4 v5) [(0, .ref a0), (1, .long p1), (3, .ref a8)] 0 0 0 []
  unfold P_L_fittingCount at h
  refine xw_aload_n hf (pc := 0) dL_fittingCount_0 rfl 2 rfl ?_
  refine xw_iconst hf (pc := 1) dL_fittingCount_1 (v := 0) (by decide) ?_
  refine xw_aload_n hf (pc := 2) dL_fittingCount_2 rfl 0 rfl ?_
  refine xw_lload_n hf (pc := 3) dL_fittingCount_3 rfl 1 rfl ?_
  refine xw_callVX hf (pc := 4) (nA := 1) (Xr := [(a8, .inl (gJ (xg x), 1, .inr (.inl v5)))]) (rest := [.int 0, .ref a8]) (T := TX8) (c_X8_fittingCount (xl x) (xg x) hst a0 a1 a2 a3 a4 a5 a6 a7 a9 a10 a11 a12 v0 v1 v2 v3 v4 p1 h) gL_fittingCount_X8_fittingCount (by rfl) rfl rfl (by decide +kernel) ⟨⟨(Nat.le_of_ble_eq_true rfl), (Nat.le_of_ble_eq_true rfl)⟩, (Nat.le_of_ble_eq_true rfl), (Nat.le_of_ble_eq_true rfl)⟩ (Nat.le_of_ble_eq_true rfl) rfl rfl (sb_of [0, 1, 2, 3, 4, 5, 6, 7, 8] rfl rfl) rfl dL_fittingCount_4 (fun v X1 hp => ?_) (fun E8 X1 hp => ?_)
  · obtain ⟨r1, w2, w3, w4, rfl, rfl, h⟩ := hp
    refine xw_X (sb_of [0, 1, 2, 3, 4, 5, 6, 7, 8] rfl rfl) (show ww x (W_L_fittingCount (xg x) a0 a1 a2 a3 a4 a5 a6 a7 a8 a9 a10 a11 a12 v0 v1 w2 w3 w4 v5) [(0, .ref a0), (1, .long p1), (3, .ref a8)] 1 6 7 [.int r1, .int 0, .ref a8] from ?_)
    refine xw_i2l hf (pc := 7) dL_fittingCount_7 ?_
    refine xw_last hf (pc := 8) dL_fittingCount_8 8 rfl h.1 (W_L_fittingCount (xg x) a0 a1 a2 a3 a4 a5 a6 a7 a8 a9 a10 a11 a12 v0 v1 w2 w3 w4 (vp_updL v5 (0 : Int32).toNatClampNeg r1.toInt64)) rfl ?_
    have h := h.2
    refine xw_goto hf (pc := 9) dL_fittingCount_9 (tgt := 16) rfl ?_
    refine xw_iconst hf (pc := 16) dL_fittingCount_16 (v := 0) (by decide) ?_
    exact xw_iret hf (pc := 17) dL_fittingCount_17 hr (Nat.le_of_ble_eq_true rfl) (Nat.le_of_ble_eq_true rfl) ⟨_, _, _, _, _, rfl, rfl, h⟩
  · obtain ⟨w5, w6, w7, rfl, h⟩ := hp
    refine xe_X (sb_of [0, 1, 2, 3, 4, 5, 6, 7, 8] rfl rfl) (show wx x (W_L_fittingCount (xg x) a0 a1 a2 a3 a4 a5 a6 a7 a8 a9 a10 a11 a12 v0 v1 w5 w6 w7 v5) [(0, .ref a0), (1, .long p1), (3, .ref a8)] 1 6 4 E8 [.int 0, .ref a8] from ?_)
    obtain ⟨rfl, h⟩ := h
    refine xw_catchA hf tb rfl (by decide) mw_L_fittingCount_0 ((fav hf).1 _ (List.mem_of_getElem? (i := 0) rfl)) (fun q9 => ?_)
    refine xw_astore hf (pc := 12) dL_fittingCount_12 [(4, .ref q9), (0, .ref a0), (1, .long p1), (3, .ref a8)] hn (by decide) rfl ?_
    refine xw_iconst hf (pc := 14) dL_fittingCount_14 (v := 1) (by decide) ?_
    exact xw_iret hf (pc := 15) dL_fittingCount_15 hr (Nat.le_of_ble_eq_true rfl) (Nat.le_of_ble_eq_true rfl) ⟨_, _, _, _, _, rfl, rfl, h⟩
abbrev W_L_fittingWord (g : Gx) (a0 a1 a2 a3 a4 a5 a6 a7 a8 a9 a10 a11 a12 : Nat) (v0 : Int32) (v1 : Nat → Int64) (v2 : Int32) (v3 : Nat → Int64) (v4 : Nat → Int32) (v5 : Nat → Int64) : va_W := [(a0, .inr (8, [.ref a1, .ref a9, .ref a10, .ref a11, .ref a12])), (a1, .inr (2, [.ref a2, .ref a4, .ref a6])), (a2, .inr (7, [.ref a3, .int v0])), (a3, .inl (gJ g, 60, .inr (.inl v1))), (a4, .inr (7, [.ref a5, .int v2])), (a5, .inl (gJ g, 60, .inr (.inl v3))), (a6, .inr (3, [.ref a7])), (a7, .inl (gI g, 32, .inl v4)), (a8, .inl (gJ g, 1, .inr (.inl v5)))]
abbrev rm_L_fittingWord : Room := { frames := 9, cells := 2, slots := 12, locals := 144 }
theorem mw_L_fittingWord_0 : (Cond.classLink RL 13 "java/lang/IllegalArgumentException" : Cond) ∈ wsL_fittingWord := (List.mem_cons_of_mem _ (List.mem_append_left _ (List.mem_append_left _ (List.mem_append_left _ (List.mem_append_left _ (List.mem_append_left _ (List.mem_append_left _ (List.mem_append_left _ (List.mem_of_getElem? (l := wsL_fittingWord_r1) (i := 0) rfl)))))))))
theorem mw_L_fittingWord_1 : (Cond.classLink RL 26 "java/lang/IndexOutOfBoundsException" : Cond) ∈ wsL_fittingWord := (List.mem_cons_of_mem _ (List.mem_append_left _ (List.mem_append_left _ (List.mem_append_left _ (List.mem_append_left _ (List.mem_append_left _ (List.mem_append_left _ (List.mem_append_left _ (List.mem_of_getElem? (l := wsL_fittingWord_r1) (i := 1) rfl)))))))))
set_option maxHeartbeats 4000000 in
set_option maxRecDepth 100000 in
theorem c_L_fittingWord (l : Launch) (g : Gx) (hst : l.stackTraces = false) (a0 a1 a2 a3 a4 a5 a6 a7 a8 a9 a10 a11 a12 : Nat) (v0 : Int32) (v1 : Nat → Int64) (v2 : Int32) (v3 : Nat → Int64) (v4 : Nat → Int32) (v5 : Nat → Int64) (p1 : Int64) (p3 : Int32) {post : Int32 → Int32 → (Nat → Int64) → (Nat → Int32) → (Nat → Int64) → Prop} (h : P_L_fittingWord post p1 p3 v0 v1 v2 v3 v4 v5) : cm l g yL_fittingWord wsL_fittingWord (rm_L_fittingWord) [.ref a0, .long p1, .int p3, .ref a8] (W_L_fittingWord g a0 a1 a2 a3 a4 a5 a6 a7 a8 a9 a10 a11 a12 v0 v1 v2 v3 v4 v5) (fun v X1 => ∃ (r : Int32) (uv2 : Int32) (uv3 : Nat → Int64) (uv4 : Nat → Int32) (uv5 : Nat → Int64), v = some (.int r) ∧ X1 = W_L_fittingWord g a0 a1 a2 a3 a4 a5 a6 a7 a8 a9 a10 a11 a12 v0 v1 uv2 uv3 uv4 uv5 ∧ post r uv2 uv3 uv4 uv5) := by
  refine cmW_of (cc := cL_fittingWord) (nL := 6) (ret := (some .int)) (hh := [(0, 10, 13, 13), (0, 10, 17, 26)]) (by decide +kernel) rfl (Nat.le_of_ble_eq_true rfl) ?_
  intro x hf hl hg hn hi hr tb
  subst hl
  subst hg
  show ww x (W_L_fittingWord (xg x) a0 a1 a2 a3 a4 a5 a6 a7 a8 a9 a10 a11 a12 v0 v1 v2 v3 v4 v5) [(0, .ref a0), (1, .long p1), (3, .int p3), (4, .ref a8)] 0 0 0 []
  unfold P_L_fittingWord at h
  refine xw_aload hf (pc := 0) dL_fittingWord_0 3 rfl ?_
  refine xw_iconst hf (pc := 2) dL_fittingWord_2 (v := 0) (by decide) ?_
  refine xw_aload_n hf (pc := 3) dL_fittingWord_3 rfl 0 rfl ?_
  refine xw_lload_n hf (pc := 4) dL_fittingWord_4 rfl 1 rfl ?_
  refine xw_iload_n hf (pc := 5) dL_fittingWord_5 rfl 2 rfl ?_
  refine xw_callVX hf (pc := 6) (nA := 2) (Xr := [(a8, .inl (gJ (xg x), 1, .inr (.inl v5)))]) (rest := [.int 0, .ref a8]) (T := TX8) (c_X8_fittingWord (xl x) (xg x) hst a0 a1 a2 a3 a4 a5 a6 a7 a9 a10 a11 a12 v0 v1 v2 v3 v4 p1 p3 h) gL_fittingWord_X8_fittingWord (by rfl) rfl rfl (by decide +kernel) ⟨⟨(Nat.le_of_ble_eq_true rfl), (Nat.le_of_ble_eq_true rfl)⟩, (Nat.le_of_ble_eq_true rfl), (Nat.le_of_ble_eq_true rfl)⟩ (Nat.le_of_ble_eq_true rfl) rfl rfl (sb_of [0, 1, 2, 3, 4, 5, 6, 7, 8] rfl rfl) rfl dL_fittingWord_6 (fun v X1 hp => ?_) (fun E8 X1 hp => ?_)
  · obtain ⟨r1, w2, w3, w4, rfl, rfl, h⟩ := hp
    refine xw_X (sb_of [0, 1, 2, 3, 4, 5, 6, 7, 8] rfl rfl) (show ww x (W_L_fittingWord (xg x) a0 a1 a2 a3 a4 a5 a6 a7 a8 a9 a10 a11 a12 v0 v1 w2 w3 w4 v5) [(0, .ref a0), (1, .long p1), (3, .int p3), (4, .ref a8)] 2 12 9 [.long r1, .int 0, .ref a8] from ?_)
    refine xw_last hf (pc := 9) dL_fittingWord_9 8 rfl h.1 (W_L_fittingWord (xg x) a0 a1 a2 a3 a4 a5 a6 a7 a8 a9 a10 a11 a12 v0 v1 w2 w3 w4 (vp_updL v5 (0 : Int32).toNatClampNeg r1)) rfl ?_
    have h := h.2
    refine xw_goto hf (pc := 10) dL_fittingWord_10 (tgt := 21) rfl ?_
    refine xw_iconst hf (pc := 21) dL_fittingWord_21 (v := 0) (by decide) ?_
    exact xw_iret hf (pc := 22) dL_fittingWord_22 hr (Nat.le_of_ble_eq_true rfl) (Nat.le_of_ble_eq_true rfl) ⟨_, _, _, _, _, rfl, rfl, h⟩
  · obtain ⟨w5, w6, w7, rfl, h⟩ := hp
    refine xe_X (sb_of [0, 1, 2, 3, 4, 5, 6, 7, 8] rfl rfl) (show wx x (W_L_fittingWord (xg x) a0 a1 a2 a3 a4 a5 a6 a7 a8 a9 a10 a11 a12 v0 v1 w5 w6 w7 v5) [(0, .ref a0), (1, .long p1), (3, .int p3), (4, .ref a8)] 2 12 6 E8 [.int 0, .ref a8] from ?_)
    rcases h with ⟨rfl, h⟩ | ⟨rfl, h⟩
    · refine xw_catchA hf tb rfl (by decide) mw_L_fittingWord_0 ((fav hf).1 _ (List.mem_of_getElem? (i := 0) rfl)) (fun q9 => ?_)
      refine xw_astore hf (pc := 13) dL_fittingWord_13 [(5, .ref q9), (0, .ref a0), (1, .long p1), (3, .int p3), (4, .ref a8)] hn (by decide) rfl ?_
      refine xw_iconst hf (pc := 15) dL_fittingWord_15 (v := 1) (by decide) ?_
      exact xw_iret hf (pc := 16) dL_fittingWord_16 hr (Nat.le_of_ble_eq_true rfl) (Nat.le_of_ble_eq_true rfl) ⟨_, _, _, _, _, rfl, rfl, h⟩
    · refine xw_catchB hf tb (by decide) mw_L_fittingWord_0 ((fav hf).2.2.2.2.2.1 _ (List.mem_of_getElem? (i := 2) rfl)) rfl (by decide) mw_L_fittingWord_1 ((fav hf).1 _ (List.mem_of_getElem? (i := 3) rfl)) (fun q10 => ?_)
      refine xw_astore hf (pc := 17) dL_fittingWord_17 [(5, .ref q10), (0, .ref a0), (1, .long p1), (3, .int p3), (4, .ref a8)] hn (by decide) rfl ?_
      refine xw_iconst hf (pc := 19) dL_fittingWord_19 (v := 2) (by decide) ?_
      exact xw_iret hf (pc := 20) dL_fittingWord_20 hr (Nat.le_of_ble_eq_true rfl) (Nat.le_of_ble_eq_true rfl) ⟨_, _, _, _, _, rfl, rfl, h⟩
abbrev W_L_cut (g : Gx) (a0 a1 a2 a3 a4 a5 a6 a7 a8 a9 a10 a11 a12 a13 a14 a15 : Nat) (v0 : Nat → Int32) (v1 : Int32) (v2 : Nat → Int32) (v3 : Nat → Int32) (v4 : Nat → Int64) : va_W := [(a0, .inr (8, [.ref a10, .ref a1, .ref a4, .ref a11, .ref a7])), (a1, .inr (6, [.ref a2, .ref a12, .ref a13])), (a2, .inr (3, [.ref a3])), (a3, .inl (gI g, 32, .inl v0)), (a4, .inr (1, [.ref a14, .ref a5, .ref a15, .int v1])), (a5, .inr (3, [.ref a6])), (a6, .inl (gI g, 32, .inl v2)), (a7, .inr (3, [.ref a8])), (a8, .inl (gI g, 32, .inl v3)), (a9, .inl (gJ g, 1, .inr (.inl v4)))]
abbrev rm_L_cut : Room := { frames := 9, cells := 3, slots := 18, locals := 145 }
theorem mw_L_cut_0 : (Cond.classLink RL 13 "java/lang/IllegalArgumentException" : Cond) ∈ wsL_cut := (List.mem_cons_of_mem _ (List.mem_append_left _ (List.mem_append_left _ (List.mem_append_left _ (List.mem_append_left _ (List.mem_append_left _ (List.mem_append_left _ (List.mem_append_left _ (List.mem_of_getElem? (l := wsL_cut_r1) (i := 0) rfl)))))))))
theorem mw_L_cut_1 : (Cond.classLink RL 15 "java/lang/IllegalStateException" : Cond) ∈ wsL_cut := (List.mem_cons_of_mem _ (List.mem_append_left _ (List.mem_append_left _ (List.mem_append_left _ (List.mem_append_left _ (List.mem_append_left _ (List.mem_append_left _ (List.mem_append_left _ (List.mem_of_getElem? (l := wsL_cut_r1) (i := 1) rfl)))))))))
set_option maxHeartbeats 4000000 in
set_option maxRecDepth 100000 in
theorem c_L_cut (l : Launch) (g : Gx) (hst : l.stackTraces = false) (a0 a1 a2 a3 a4 a5 a6 a7 a8 a9 a10 a11 a12 a13 a14 a15 : Nat) (v0 : Nat → Int32) (v1 : Int32) (v2 : Nat → Int32) (v3 : Nat → Int32) (v4 : Nat → Int64) (p1 : Int64) (p3 : Int32) {post : Int32 → (Nat → Int32) → (Nat → Int32) → (Nat → Int32) → (Nat → Int64) → Prop} (h : P_L_cut post p1 p3 v0 v1 v2 v3 v4) : cm l g yL_cut wsL_cut (rm_L_cut) [.ref a0, .long p1, .int p3, .ref a9] (W_L_cut g a0 a1 a2 a3 a4 a5 a6 a7 a8 a9 a10 a11 a12 a13 a14 a15 v0 v1 v2 v3 v4) (fun v X1 => ∃ (r : Int32) (uv0 : Nat → Int32) (uv2 : Nat → Int32) (uv3 : Nat → Int32) (uv4 : Nat → Int64), v = some (.int r) ∧ X1 = W_L_cut g a0 a1 a2 a3 a4 a5 a6 a7 a8 a9 a10 a11 a12 a13 a14 a15 uv0 v1 uv2 uv3 uv4 ∧ post r uv0 uv2 uv3 uv4) := by
  refine cmW_of (cc := cL_cut) (nL := 6) (ret := (some .int)) (hh := [(0, 11, 14, 13), (0, 11, 18, 15)]) (by decide +kernel) rfl (Nat.le_of_ble_eq_true rfl) ?_
  intro x hf hl hg hn hi hr tb
  subst hl
  subst hg
  show ww x (W_L_cut (xg x) a0 a1 a2 a3 a4 a5 a6 a7 a8 a9 a10 a11 a12 a13 a14 a15 v0 v1 v2 v3 v4) [(0, .ref a0), (1, .long p1), (3, .int p3), (4, .ref a9)] 0 0 0 []
  unfold P_L_cut at h
  refine xw_aload hf (pc := 0) dL_cut_0 3 rfl ?_
  refine xw_iconst hf (pc := 2) dL_cut_2 (v := 0) (by decide) ?_
  refine xw_aload_n hf (pc := 3) dL_cut_3 rfl 0 rfl ?_
  refine xw_lload_n hf (pc := 4) dL_cut_4 rfl 1 rfl ?_
  refine xw_iload_n hf (pc := 5) dL_cut_5 rfl 2 rfl ?_
  refine xw_callVX hf (pc := 6) (nA := 2) (Xr := [(a9, .inl (gJ (xg x), 1, .inr (.inl v4)))]) (rest := [.int 0, .ref a9]) (T := TX8) (c_X8_cut (xl x) (xg x) hst a0 a1 a2 a3 a4 a5 a6 a7 a8 a10 a11 a12 a13 a14 a15 v0 v1 v2 v3 p1 p3 h) gL_cut_X8_cut (by rfl) rfl rfl (by decide +kernel) ⟨⟨(Nat.le_of_ble_eq_true rfl), (Nat.le_of_ble_eq_true rfl)⟩, (Nat.le_of_ble_eq_true rfl), (Nat.le_of_ble_eq_true rfl)⟩ (Nat.le_of_ble_eq_true rfl) rfl rfl (sb_of [0, 1, 2, 3, 4, 5, 6, 7, 8, 9] rfl rfl) rfl dL_cut_6 (fun v X1 hp => ?_) (fun E8 X1 hp => ?_)
  · obtain ⟨r1, w2, w3, w4, rfl, rfl, h⟩ := hp
    refine xw_X (sb_of [0, 1, 2, 3, 4, 5, 6, 7, 8, 9] rfl rfl) (show ww x (W_L_cut (xg x) a0 a1 a2 a3 a4 a5 a6 a7 a8 a9 a10 a11 a12 a13 a14 a15 w2 v1 w3 w4 v4) [(0, .ref a0), (1, .long p1), (3, .int p3), (4, .ref a9)] 3 18 9 [.int r1, .int 0, .ref a9] from ?_)
    refine xw_i2l hf (pc := 9) dL_cut_9 ?_
    refine xw_last hf (pc := 10) dL_cut_10 9 rfl h.1 (W_L_cut (xg x) a0 a1 a2 a3 a4 a5 a6 a7 a8 a9 a10 a11 a12 a13 a14 a15 w2 v1 w3 w4 (vp_updL v4 (0 : Int32).toNatClampNeg r1.toInt64)) rfl ?_
    have h := h.2
    refine xw_goto hf (pc := 11) dL_cut_11 (tgt := 22) rfl ?_
    refine xw_iconst hf (pc := 22) dL_cut_22 (v := 0) (by decide) ?_
    exact xw_iret hf (pc := 23) dL_cut_23 hr (Nat.le_of_ble_eq_true rfl) (Nat.le_of_ble_eq_true rfl) ⟨_, _, _, _, _, rfl, rfl, h⟩
  · obtain ⟨w5, w6, w7, rfl, h⟩ := hp
    refine xe_X (sb_of [0, 1, 2, 3, 4, 5, 6, 7, 8, 9] rfl rfl) (show wx x (W_L_cut (xg x) a0 a1 a2 a3 a4 a5 a6 a7 a8 a9 a10 a11 a12 a13 a14 a15 w5 v1 w6 w7 v4) [(0, .ref a0), (1, .long p1), (3, .int p3), (4, .ref a9)] 3 18 6 E8 [.int 0, .ref a9] from ?_)
    rcases h with ⟨rfl, h⟩ | ⟨rfl, h⟩
    · refine xw_catchA hf tb rfl (by decide) mw_L_cut_0 ((fav hf).1 _ (List.mem_of_getElem? (i := 0) rfl)) (fun q9 => ?_)
      refine xw_astore hf (pc := 14) dL_cut_14 [(5, .ref q9), (0, .ref a0), (1, .long p1), (3, .int p3), (4, .ref a9)] hn (by decide) rfl ?_
      refine xw_iconst hf (pc := 16) dL_cut_16 (v := 1) (by decide) ?_
      exact xw_iret hf (pc := 17) dL_cut_17 hr (Nat.le_of_ble_eq_true rfl) (Nat.le_of_ble_eq_true rfl) ⟨_, _, _, _, _, rfl, rfl, h⟩
    · refine xw_catchB hf tb (by decide) mw_L_cut_0 ((fav hf).2.2.2.2.2.1 _ (List.mem_of_getElem? (i := 0) rfl)) rfl (by decide) mw_L_cut_1 ((fav hf).1 _ (List.mem_of_getElem? (i := 1) rfl)) (fun q10 => ?_)
      refine xw_astore hf (pc := 18) dL_cut_18 [(5, .ref q10), (0, .ref a0), (1, .long p1), (3, .int p3), (4, .ref a9)] hn (by decide) rfl ?_
      refine xw_iconst hf (pc := 20) dL_cut_20 (v := 2) (by decide) ?_
      exact xw_iret hf (pc := 21) dL_cut_21 hr (Nat.le_of_ble_eq_true rfl) (Nat.le_of_ble_eq_true rfl) ⟨_, _, _, _, _, rfl, rfl, h⟩
abbrev W_L_stockOf (g : Gx) (a0 a1 a2 a3 a4 a5 a6 a7 a8 a9 a10 : Nat) (v0 : Nat → Int32) (v1 : Nat → Int64) : va_W := [(a0, .inr (8, [.ref a5, .ref a1, .ref a6, .ref a7, .ref a8])), (a1, .inr (6, [.ref a2, .ref a9, .ref a10])), (a2, .inr (3, [.ref a3])), (a3, .inl (gI g, 32, .inl v0)), (a4, .inl (gJ g, 1, .inr (.inl v1)))]
abbrev rm_L_stockOf : Room := { frames := 10, cells := 1, slots := 6, locals := 163 }
theorem mw_L_stockOf_0 : (Cond.classLink RL 13 "java/lang/IllegalArgumentException" : Cond) ∈ wsL_stockOf := (List.mem_cons_of_mem _ (List.mem_append_left _ (List.mem_append_left _ (List.mem_append_left _ (List.mem_append_left _ (List.mem_of_getElem? (i := 0) rfl))))))
set_option maxHeartbeats 4000000 in
set_option maxRecDepth 100000 in
theorem c_L_stockOf (l : Launch) (g : Gx) (hst : l.stackTraces = false) (a0 a1 a2 a3 a4 a5 a6 a7 a8 a9 a10 : Nat) (v0 : Nat → Int32) (v1 : Nat → Int64) (p1 : Int32) {post : Int32 → (Nat → Int64) → Prop} (h : P_L_stockOf post p1 v0 v1) : cm l g yL_stockOf wsL_stockOf (rm_L_stockOf) [.ref a0, .int p1, .ref a4] (W_L_stockOf g a0 a1 a2 a3 a4 a5 a6 a7 a8 a9 a10 v0 v1) (fun v X1 => ∃ (r : Int32) (uv1 : Nat → Int64), v = some (.int r) ∧ X1 = W_L_stockOf g a0 a1 a2 a3 a4 a5 a6 a7 a8 a9 a10 v0 uv1 ∧ post r uv1) := by
  refine cmW_of (cc := cL_stockOf) (nL := 4) (ret := (some .int)) (hh := [(0, 9, 12, 13)]) (by decide +kernel) rfl (Nat.le_of_ble_eq_true rfl) ?_
  intro x hf hl hg hn hi hr tb
  subst hl
  subst hg
  show ww x (W_L_stockOf (xg x) a0 a1 a2 a3 a4 a5 a6 a7 a8 a9 a10 v0 v1) [(0, .ref a0), (1, .int p1), (2, .ref a4)] 0 0 0 []
  unfold P_L_stockOf at h
  refine xw_aload_n hf (pc := 0) dL_stockOf_0 rfl 2 rfl ?_
  refine xw_iconst hf (pc := 1) dL_stockOf_1 (v := 0) (by decide) ?_
  refine xw_aload_n hf (pc := 2) dL_stockOf_2 rfl 0 rfl ?_
  refine xw_iload_n hf (pc := 3) dL_stockOf_3 rfl 1 rfl ?_
  refine xw_callVX hf (pc := 4) (nA := 1) (Xr := [(a4, .inl (gJ (xg x), 1, .inr (.inl v1)))]) (rest := [.int 0, .ref a4]) (T := TX8) (c_X8_stockOf (xl x) (xg x) hst a0 a1 a2 a3 a5 a6 a7 a8 a9 a10 v0 p1 h) gL_stockOf_X8_stockOf (by rfl) rfl rfl (by decide +kernel) ⟨⟨(Nat.le_of_ble_eq_true rfl), (Nat.le_of_ble_eq_true rfl)⟩, (Nat.le_of_ble_eq_true rfl), (Nat.le_of_ble_eq_true rfl)⟩ (Nat.le_of_ble_eq_true rfl) rfl rfl (sb_of [0, 1, 2, 3, 4] rfl rfl) rfl dL_stockOf_4 (fun v X1 hp => ?_) (fun E2 X1 hp => ?_)
  · obtain ⟨r1, rfl, rfl, h⟩ := hp
    refine xw_X (sb_of [0, 1, 2, 3, 4] rfl rfl) (show ww x (W_L_stockOf (xg x) a0 a1 a2 a3 a4 a5 a6 a7 a8 a9 a10 v0 v1) [(0, .ref a0), (1, .int p1), (2, .ref a4)] 1 6 7 [.int r1, .int 0, .ref a4] from ?_)
    refine xw_i2l hf (pc := 7) dL_stockOf_7 ?_
    refine xw_last hf (pc := 8) dL_stockOf_8 4 rfl h.1 (W_L_stockOf (xg x) a0 a1 a2 a3 a4 a5 a6 a7 a8 a9 a10 v0 (vp_updL v1 (0 : Int32).toNatClampNeg r1.toInt64)) rfl ?_
    have h := h.2
    refine xw_goto hf (pc := 9) dL_stockOf_9 (tgt := 15) rfl ?_
    refine xw_iconst hf (pc := 15) dL_stockOf_15 (v := 0) (by decide) ?_
    exact xw_iret hf (pc := 16) dL_stockOf_16 hr (Nat.le_of_ble_eq_true rfl) (Nat.le_of_ble_eq_true rfl) ⟨_, _, rfl, rfl, h⟩
  · obtain ⟨rfl, h⟩ := hp
    refine xe_X (sb_of [0, 1, 2, 3, 4] rfl rfl) (show wx x (W_L_stockOf (xg x) a0 a1 a2 a3 a4 a5 a6 a7 a8 a9 a10 v0 v1) [(0, .ref a0), (1, .int p1), (2, .ref a4)] 1 6 4 E2 [.int 0, .ref a4] from ?_)
    obtain ⟨rfl, h⟩ := h
    refine xw_catchA hf tb rfl (by decide) mw_L_stockOf_0 ((fav hf).1 _ (List.mem_of_getElem? (i := 0) rfl)) (fun q3 => ?_)
    refine xw_astore_n hf (pc := 12) dL_stockOf_12 rfl [(3, .ref q3), (0, .ref a0), (1, .int p1), (2, .ref a4)] hn (by decide) rfl ?_
    refine xw_iconst hf (pc := 13) dL_stockOf_13 (v := 1) (by decide) ?_
    exact xw_iret hf (pc := 14) dL_stockOf_14 hr (Nat.le_of_ble_eq_true rfl) (Nat.le_of_ble_eq_true rfl) ⟨_, _, rfl, rfl, h⟩
abbrev W_L_setBasePrice (g : Gx) (a0 a1 a2 a3 a4 a5 a6 a7 a8 a9 : Nat) (v0 : Nat → Int32) (v1 : Nat → Int64) : va_W := [(a0, .inr (8, [.ref a4, .ref a1, .ref a5, .ref a6, .ref a7])), (a1, .inr (6, [.ref a8, .ref a2, .ref a9])), (a2, .inl (gI g, 32, .inl v0)), (a3, .inl (gJ g, 1, .inr (.inl v1)))]
abbrev rm_L_setBasePrice : Room := { frames := 10, cells := 2, slots := 12, locals := 164 }
theorem mw_L_setBasePrice_0 : (Cond.classLink RL 13 "java/lang/IllegalArgumentException" : Cond) ∈ wsL_setBasePrice := (List.mem_cons_of_mem _ (List.mem_append_left _ (List.mem_append_left _ (List.mem_append_left _ (List.mem_append_left _ (List.mem_of_getElem? (l := wsL_setBasePrice_r1) (i := 0) rfl))))))
set_option maxHeartbeats 4000000 in
set_option maxRecDepth 100000 in
theorem c_L_setBasePrice (l : Launch) (g : Gx) (hst : l.stackTraces = false) (a0 a1 a2 a3 a4 a5 a6 a7 a8 a9 : Nat) (v0 : Nat → Int32) (v1 : Nat → Int64) (p1 : Int32) (p2 : Int32) {post : Int32 → (Nat → Int32) → (Nat → Int64) → Prop} (h : P_L_setBasePrice post p1 p2 v0 v1) : cm l g yL_setBasePrice wsL_setBasePrice (rm_L_setBasePrice) [.ref a0, .int p1, .int p2, .ref a3] (W_L_setBasePrice g a0 a1 a2 a3 a4 a5 a6 a7 a8 a9 v0 v1) (fun v X1 => ∃ (r : Int32) (uv0 : Nat → Int32) (uv1 : Nat → Int64), v = some (.int r) ∧ X1 = W_L_setBasePrice g a0 a1 a2 a3 a4 a5 a6 a7 a8 a9 uv0 uv1 ∧ post r uv0 uv1) := by
  refine cmW_of (cc := cL_setBasePrice) (nL := 5) (ret := (some .int)) (hh := [(0, 10, 13, 13)]) (by decide +kernel) rfl (Nat.le_of_ble_eq_true rfl) ?_
  intro x hf hl hg hn hi hr tb
  subst hl
  subst hg
  show ww x (W_L_setBasePrice (xg x) a0 a1 a2 a3 a4 a5 a6 a7 a8 a9 v0 v1) [(0, .ref a0), (1, .int p1), (2, .int p2), (3, .ref a3)] 0 0 0 []
  unfold P_L_setBasePrice at h
  refine xw_aload_n hf (pc := 0) dL_setBasePrice_0 rfl 3 rfl ?_
  refine xw_iconst hf (pc := 1) dL_setBasePrice_1 (v := 0) (by decide) ?_
  refine xw_aload_n hf (pc := 2) dL_setBasePrice_2 rfl 0 rfl ?_
  refine xw_iload_n hf (pc := 3) dL_setBasePrice_3 rfl 1 rfl ?_
  refine xw_iload_n hf (pc := 4) dL_setBasePrice_4 rfl 2 rfl ?_
  refine xw_callVX hf (pc := 5) (nA := 2) (Xr := [(a3, .inl (gJ (xg x), 1, .inr (.inl v1)))]) (rest := [.int 0, .ref a3]) (T := TX8) (c_X8_setBasePrice (xl x) (xg x) hst a0 a1 a2 a4 a5 a6 a7 a8 a9 v0 p1 p2 h) gL_setBasePrice_X8_setBasePrice (by rfl) rfl rfl (by decide +kernel) ⟨⟨(Nat.le_of_ble_eq_true rfl), (Nat.le_of_ble_eq_true rfl)⟩, (Nat.le_of_ble_eq_true rfl), (Nat.le_of_ble_eq_true rfl)⟩ (Nat.le_of_ble_eq_true rfl) rfl rfl (sb_of [0, 1, 2, 3] rfl rfl) rfl dL_setBasePrice_5 (fun v X1 hp => ?_) (fun E4 X1 hp => ?_)
  · obtain ⟨r1, w2, rfl, rfl, h⟩ := hp
    refine xw_X (sb_of [0, 1, 2, 3] rfl rfl) (show ww x (W_L_setBasePrice (xg x) a0 a1 a2 a3 a4 a5 a6 a7 a8 a9 w2 v1) [(0, .ref a0), (1, .int p1), (2, .int p2), (3, .ref a3)] 2 12 8 [.int r1, .int 0, .ref a3] from ?_)
    refine xw_i2l hf (pc := 8) dL_setBasePrice_8 ?_
    refine xw_last hf (pc := 9) dL_setBasePrice_9 3 rfl h.1 (W_L_setBasePrice (xg x) a0 a1 a2 a3 a4 a5 a6 a7 a8 a9 w2 (vp_updL v1 (0 : Int32).toNatClampNeg r1.toInt64)) rfl ?_
    have h := h.2
    refine xw_goto hf (pc := 10) dL_setBasePrice_10 (tgt := 17) rfl ?_
    refine xw_iconst hf (pc := 17) dL_setBasePrice_17 (v := 0) (by decide) ?_
    exact xw_iret hf (pc := 18) dL_setBasePrice_18 hr (Nat.le_of_ble_eq_true rfl) (Nat.le_of_ble_eq_true rfl) ⟨_, _, _, rfl, rfl, h⟩
  · obtain ⟨w3, rfl, h⟩ := hp
    refine xe_X (sb_of [0, 1, 2, 3] rfl rfl) (show wx x (W_L_setBasePrice (xg x) a0 a1 a2 a3 a4 a5 a6 a7 a8 a9 w3 v1) [(0, .ref a0), (1, .int p1), (2, .int p2), (3, .ref a3)] 2 12 5 E4 [.int 0, .ref a3] from ?_)
    obtain ⟨rfl, h⟩ := h
    refine xw_catchA hf tb rfl (by decide) mw_L_setBasePrice_0 ((fav hf).1 _ (List.mem_of_getElem? (i := 0) rfl)) (fun q5 => ?_)
    refine xw_astore hf (pc := 13) dL_setBasePrice_13 [(4, .ref q5), (0, .ref a0), (1, .int p1), (2, .int p2), (3, .ref a3)] hn (by decide) rfl ?_
    refine xw_iconst hf (pc := 15) dL_setBasePrice_15 (v := 1) (by decide) ?_
    exact xw_iret hf (pc := 16) dL_setBasePrice_16 hr (Nat.le_of_ble_eq_true rfl) (Nat.le_of_ble_eq_true rfl) ⟨_, _, _, rfl, rfl, h⟩
abbrev W_L_basePriceOf (g : Gx) (a0 a1 a2 a3 a4 a5 a6 a7 a8 a9 : Nat) (v0 : Nat → Int32) (v1 : Nat → Int64) : va_W := [(a0, .inr (8, [.ref a4, .ref a1, .ref a5, .ref a6, .ref a7])), (a1, .inr (6, [.ref a8, .ref a2, .ref a9])), (a2, .inl (gI g, 32, .inl v0)), (a3, .inl (gJ g, 1, .inr (.inl v1)))]
abbrev rm_L_basePriceOf : Room := { frames := 10, cells := 1, slots := 6, locals := 163 }
theorem mw_L_basePriceOf_0 : (Cond.classLink RL 13 "java/lang/IllegalArgumentException" : Cond) ∈ wsL_basePriceOf := (List.mem_cons_of_mem _ (List.mem_append_left _ (List.mem_append_left _ (List.mem_append_left _ (List.mem_of_getElem? (i := 0) rfl)))))
set_option maxHeartbeats 4000000 in
set_option maxRecDepth 100000 in
theorem c_L_basePriceOf (l : Launch) (g : Gx) (hst : l.stackTraces = false) (a0 a1 a2 a3 a4 a5 a6 a7 a8 a9 : Nat) (v0 : Nat → Int32) (v1 : Nat → Int64) (p1 : Int32) {post : Int32 → (Nat → Int64) → Prop} (h : P_L_basePriceOf post p1 v0 v1) : cm l g yL_basePriceOf wsL_basePriceOf (rm_L_basePriceOf) [.ref a0, .int p1, .ref a3] (W_L_basePriceOf g a0 a1 a2 a3 a4 a5 a6 a7 a8 a9 v0 v1) (fun v X1 => ∃ (r : Int32) (uv1 : Nat → Int64), v = some (.int r) ∧ X1 = W_L_basePriceOf g a0 a1 a2 a3 a4 a5 a6 a7 a8 a9 v0 uv1 ∧ post r uv1) := by
  refine cmW_of (cc := cL_basePriceOf) (nL := 4) (ret := (some .int)) (hh := [(0, 9, 12, 13)]) (by decide +kernel) rfl (Nat.le_of_ble_eq_true rfl) ?_
  intro x hf hl hg hn hi hr tb
  subst hl
  subst hg
  show ww x (W_L_basePriceOf (xg x) a0 a1 a2 a3 a4 a5 a6 a7 a8 a9 v0 v1) [(0, .ref a0), (1, .int p1), (2, .ref a3)] 0 0 0 []
  unfold P_L_basePriceOf at h
  refine xw_aload_n hf (pc := 0) dL_basePriceOf_0 rfl 2 rfl ?_
  refine xw_iconst hf (pc := 1) dL_basePriceOf_1 (v := 0) (by decide) ?_
  refine xw_aload_n hf (pc := 2) dL_basePriceOf_2 rfl 0 rfl ?_
  refine xw_iload_n hf (pc := 3) dL_basePriceOf_3 rfl 1 rfl ?_
  refine xw_callVX hf (pc := 4) (nA := 1) (Xr := [(a3, .inl (gJ (xg x), 1, .inr (.inl v1)))]) (rest := [.int 0, .ref a3]) (T := TX8) (c_X8_basePriceOf (xl x) (xg x) hst a0 a1 a2 a4 a5 a6 a7 a8 a9 v0 p1 h) gL_basePriceOf_X8_basePriceOf (by rfl) rfl rfl (by decide +kernel) ⟨⟨(Nat.le_of_ble_eq_true rfl), (Nat.le_of_ble_eq_true rfl)⟩, (Nat.le_of_ble_eq_true rfl), (Nat.le_of_ble_eq_true rfl)⟩ (Nat.le_of_ble_eq_true rfl) rfl rfl (sb_of [0, 1, 2, 3] rfl rfl) rfl dL_basePriceOf_4 (fun v X1 hp => ?_) (fun E2 X1 hp => ?_)
  · obtain ⟨r1, rfl, rfl, h⟩ := hp
    refine xw_X (sb_of [0, 1, 2, 3] rfl rfl) (show ww x (W_L_basePriceOf (xg x) a0 a1 a2 a3 a4 a5 a6 a7 a8 a9 v0 v1) [(0, .ref a0), (1, .int p1), (2, .ref a3)] 1 6 7 [.int r1, .int 0, .ref a3] from ?_)
    refine xw_i2l hf (pc := 7) dL_basePriceOf_7 ?_
    refine xw_last hf (pc := 8) dL_basePriceOf_8 3 rfl h.1 (W_L_basePriceOf (xg x) a0 a1 a2 a3 a4 a5 a6 a7 a8 a9 v0 (vp_updL v1 (0 : Int32).toNatClampNeg r1.toInt64)) rfl ?_
    have h := h.2
    refine xw_goto hf (pc := 9) dL_basePriceOf_9 (tgt := 15) rfl ?_
    refine xw_iconst hf (pc := 15) dL_basePriceOf_15 (v := 0) (by decide) ?_
    exact xw_iret hf (pc := 16) dL_basePriceOf_16 hr (Nat.le_of_ble_eq_true rfl) (Nat.le_of_ble_eq_true rfl) ⟨_, _, rfl, rfl, h⟩
  · obtain ⟨rfl, h⟩ := hp
    refine xe_X (sb_of [0, 1, 2, 3] rfl rfl) (show wx x (W_L_basePriceOf (xg x) a0 a1 a2 a3 a4 a5 a6 a7 a8 a9 v0 v1) [(0, .ref a0), (1, .int p1), (2, .ref a3)] 1 6 4 E2 [.int 0, .ref a3] from ?_)
    obtain ⟨rfl, h⟩ := h
    refine xw_catchA hf tb rfl (by decide) mw_L_basePriceOf_0 ((fav hf).1 _ (List.mem_of_getElem? (i := 0) rfl)) (fun q3 => ?_)
    refine xw_astore_n hf (pc := 12) dL_basePriceOf_12 rfl [(3, .ref q3), (0, .ref a0), (1, .int p1), (2, .ref a3)] hn (by decide) rfl ?_
    refine xw_iconst hf (pc := 13) dL_basePriceOf_13 (v := 1) (by decide) ?_
    exact xw_iret hf (pc := 14) dL_basePriceOf_14 hr (Nat.le_of_ble_eq_true rfl) (Nat.le_of_ble_eq_true rfl) ⟨_, _, rfl, rfl, h⟩
abbrev W_L_presentPriceOf (g : Gx) (a0 a1 a2 a3 a4 a5 a6 a7 a8 a9 a10 : Nat) (v0 : Nat → Int32) (v1 : Nat → Int32) (v2 : Nat → Int64) : va_W := [(a0, .inr (8, [.ref a6, .ref a1, .ref a7, .ref a8, .ref a9])), (a1, .inr (6, [.ref a2, .ref a4, .ref a10])), (a2, .inr (3, [.ref a3])), (a3, .inl (gI g, 32, .inl v0)), (a4, .inl (gI g, 32, .inl v1)), (a5, .inl (gJ g, 1, .inr (.inl v2)))]
abbrev rm_L_presentPriceOf : Room := { frames := 10, cells := 1, slots := 6, locals := 163 }
theorem mw_L_presentPriceOf_0 : (Cond.classLink RL 13 "java/lang/IllegalArgumentException" : Cond) ∈ wsL_presentPriceOf := (List.mem_cons_of_mem _ (List.mem_append_left _ (List.mem_append_left _ (List.mem_append_left _ (List.mem_append_left _ (List.mem_append_left _ (List.mem_of_getElem? (l := wsL_presentPriceOf_r1) (i := 0) rfl)))))))
set_option maxHeartbeats 4000000 in
set_option maxRecDepth 100000 in
theorem c_L_presentPriceOf (l : Launch) (g : Gx) (hst : l.stackTraces = false) (a0 a1 a2 a3 a4 a5 a6 a7 a8 a9 a10 : Nat) (v0 : Nat → Int32) (v1 : Nat → Int32) (v2 : Nat → Int64) (p1 : Int32) {post : Int32 → (Nat → Int64) → Prop} (h : P_L_presentPriceOf post p1 v0 v1 v2) : cm l g yL_presentPriceOf wsL_presentPriceOf (rm_L_presentPriceOf) [.ref a0, .int p1, .ref a5] (W_L_presentPriceOf g a0 a1 a2 a3 a4 a5 a6 a7 a8 a9 a10 v0 v1 v2) (fun v X1 => ∃ (r : Int32) (uv2 : Nat → Int64), v = some (.int r) ∧ X1 = W_L_presentPriceOf g a0 a1 a2 a3 a4 a5 a6 a7 a8 a9 a10 v0 v1 uv2 ∧ post r uv2) := by
  refine cmW_of (cc := cL_presentPriceOf) (nL := 4) (ret := (some .int)) (hh := [(0, 9, 12, 13)]) (by decide +kernel) rfl (Nat.le_of_ble_eq_true rfl) ?_
  intro x hf hl hg hn hi hr tb
  subst hl
  subst hg
  show ww x (W_L_presentPriceOf (xg x) a0 a1 a2 a3 a4 a5 a6 a7 a8 a9 a10 v0 v1 v2) [(0, .ref a0), (1, .int p1), (2, .ref a5)] 0 0 0 []
  unfold P_L_presentPriceOf at h
  refine xw_aload_n hf (pc := 0) dL_presentPriceOf_0 rfl 2 rfl ?_
  refine xw_iconst hf (pc := 1) dL_presentPriceOf_1 (v := 0) (by decide) ?_
  refine xw_aload_n hf (pc := 2) dL_presentPriceOf_2 rfl 0 rfl ?_
  refine xw_iload_n hf (pc := 3) dL_presentPriceOf_3 rfl 1 rfl ?_
  refine xw_callVX hf (pc := 4) (nA := 1) (Xr := [(a5, .inl (gJ (xg x), 1, .inr (.inl v2)))]) (rest := [.int 0, .ref a5]) (T := TX8) (c_X8_presentPriceOf (xl x) (xg x) hst a0 a1 a2 a3 a4 a6 a7 a8 a9 a10 v0 v1 p1 h) gL_presentPriceOf_X8_presentPriceOf (by rfl) rfl rfl (by decide +kernel) ⟨⟨(Nat.le_of_ble_eq_true rfl), (Nat.le_of_ble_eq_true rfl)⟩, (Nat.le_of_ble_eq_true rfl), (Nat.le_of_ble_eq_true rfl)⟩ (Nat.le_of_ble_eq_true rfl) rfl rfl (sb_of [0, 1, 2, 3, 4, 5] rfl rfl) rfl dL_presentPriceOf_4 (fun v X1 hp => ?_) (fun E2 X1 hp => ?_)
  · obtain ⟨r1, rfl, rfl, h⟩ := hp
    refine xw_X (sb_of [0, 1, 2, 3, 4, 5] rfl rfl) (show ww x (W_L_presentPriceOf (xg x) a0 a1 a2 a3 a4 a5 a6 a7 a8 a9 a10 v0 v1 v2) [(0, .ref a0), (1, .int p1), (2, .ref a5)] 1 6 7 [.int r1, .int 0, .ref a5] from ?_)
    refine xw_i2l hf (pc := 7) dL_presentPriceOf_7 ?_
    refine xw_last hf (pc := 8) dL_presentPriceOf_8 5 rfl h.1 (W_L_presentPriceOf (xg x) a0 a1 a2 a3 a4 a5 a6 a7 a8 a9 a10 v0 v1 (vp_updL v2 (0 : Int32).toNatClampNeg r1.toInt64)) rfl ?_
    have h := h.2
    refine xw_goto hf (pc := 9) dL_presentPriceOf_9 (tgt := 15) rfl ?_
    refine xw_iconst hf (pc := 15) dL_presentPriceOf_15 (v := 0) (by decide) ?_
    exact xw_iret hf (pc := 16) dL_presentPriceOf_16 hr (Nat.le_of_ble_eq_true rfl) (Nat.le_of_ble_eq_true rfl) ⟨_, _, rfl, rfl, h⟩
  · obtain ⟨rfl, h⟩ := hp
    refine xe_X (sb_of [0, 1, 2, 3, 4, 5] rfl rfl) (show wx x (W_L_presentPriceOf (xg x) a0 a1 a2 a3 a4 a5 a6 a7 a8 a9 a10 v0 v1 v2) [(0, .ref a0), (1, .int p1), (2, .ref a5)] 1 6 4 E2 [.int 0, .ref a5] from ?_)
    obtain ⟨rfl, h⟩ := h
    refine xw_catchA hf tb rfl (by decide) mw_L_presentPriceOf_0 ((fav hf).1 _ (List.mem_of_getElem? (i := 0) rfl)) (fun q3 => ?_)
    refine xw_astore_n hf (pc := 12) dL_presentPriceOf_12 rfl [(3, .ref q3), (0, .ref a0), (1, .int p1), (2, .ref a5)] hn (by decide) rfl ?_
    refine xw_iconst hf (pc := 13) dL_presentPriceOf_13 (v := 1) (by decide) ?_
    exact xw_iret hf (pc := 14) dL_presentPriceOf_14 hr (Nat.le_of_ble_eq_true rfl) (Nat.le_of_ble_eq_true rfl) ⟨_, _, rfl, rfl, h⟩
abbrev W_L_weightOf (g : Gx) (a0 a1 a2 a3 a4 a5 a6 a7 a8 a9 : Nat) (v0 : Nat → Int32) (v1 : Nat → Int64) : va_W := [(a0, .inr (8, [.ref a4, .ref a1, .ref a5, .ref a6, .ref a7])), (a1, .inr (6, [.ref a8, .ref a9, .ref a2])), (a2, .inl (gI g, 32, .inl v0)), (a3, .inl (gJ g, 1, .inr (.inl v1)))]
abbrev rm_L_weightOf : Room := { frames := 9, cells := 1, slots := 6, locals := 143 }
theorem mw_L_weightOf_0 : (Cond.classLink RL 13 "java/lang/IllegalArgumentException" : Cond) ∈ wsL_weightOf := (List.mem_cons_of_mem _ (List.mem_append_left _ (List.mem_append_left _ (List.mem_append_left _ (List.mem_append_left _ (List.mem_of_getElem? (l := wsL_weightOf_r1) (i := 0) rfl))))))
set_option maxHeartbeats 4000000 in
set_option maxRecDepth 100000 in
theorem c_L_weightOf (l : Launch) (g : Gx) (hst : l.stackTraces = false) (a0 a1 a2 a3 a4 a5 a6 a7 a8 a9 : Nat) (v0 : Nat → Int32) (v1 : Nat → Int64) (p1 : Int64) {post : Int32 → (Nat → Int64) → Prop} (h : P_L_weightOf post p1 v0 v1) : cm l g yL_weightOf wsL_weightOf (rm_L_weightOf) [.ref a0, .long p1, .ref a3] (W_L_weightOf g a0 a1 a2 a3 a4 a5 a6 a7 a8 a9 v0 v1) (fun v X1 => ∃ (r : Int32) (uv1 : Nat → Int64), v = some (.int r) ∧ X1 = W_L_weightOf g a0 a1 a2 a3 a4 a5 a6 a7 a8 a9 v0 uv1 ∧ post r uv1) := by
  refine cmW_of (cc := cL_weightOf) (nL := 5) (ret := (some .int)) (hh := [(0, 9, 12, 13)]) (by decide +kernel) rfl (Nat.le_of_ble_eq_true rfl) ?_
  intro x hf hl hg hn hi hr tb
  subst hl
  subst hg
  show ww x (W_L_weightOf (xg x) a0 a1 a2 a3 a4 a5 a6 a7 a8 a9 v0 v1) [(0, .ref a0), (1, .long p1), (3, .ref a3)] 0 0 0 []
  unfold P_L_weightOf at h
  refine xw_aload_n hf (pc := 0) dL_weightOf_0 rfl 2 rfl ?_
  refine xw_iconst hf (pc := 1) dL_weightOf_1 (v := 0) (by decide) ?_
  refine xw_aload_n hf (pc := 2) dL_weightOf_2 rfl 0 rfl ?_
  refine xw_lload_n hf (pc := 3) dL_weightOf_3 rfl 1 rfl ?_
  refine xw_callVX hf (pc := 4) (nA := 1) (Xr := [(a3, .inl (gJ (xg x), 1, .inr (.inl v1)))]) (rest := [.int 0, .ref a3]) (T := TX8) (c_X8_weightOf (xl x) (xg x) hst a0 a1 a2 a4 a5 a6 a7 a8 a9 v0 p1 h) gL_weightOf_X8_weightOf (by rfl) rfl rfl (by decide +kernel) ⟨⟨(Nat.le_of_ble_eq_true rfl), (Nat.le_of_ble_eq_true rfl)⟩, (Nat.le_of_ble_eq_true rfl), (Nat.le_of_ble_eq_true rfl)⟩ (Nat.le_of_ble_eq_true rfl) rfl rfl (sb_of [0, 1, 2, 3] rfl rfl) rfl dL_weightOf_4 (fun v X1 hp => ?_) (fun E2 X1 hp => ?_)
  · obtain ⟨r1, rfl, rfl, h⟩ := hp
    refine xw_X (sb_of [0, 1, 2, 3] rfl rfl) (show ww x (W_L_weightOf (xg x) a0 a1 a2 a3 a4 a5 a6 a7 a8 a9 v0 v1) [(0, .ref a0), (1, .long p1), (3, .ref a3)] 1 6 7 [.int r1, .int 0, .ref a3] from ?_)
    refine xw_i2l hf (pc := 7) dL_weightOf_7 ?_
    refine xw_last hf (pc := 8) dL_weightOf_8 3 rfl h.1 (W_L_weightOf (xg x) a0 a1 a2 a3 a4 a5 a6 a7 a8 a9 v0 (vp_updL v1 (0 : Int32).toNatClampNeg r1.toInt64)) rfl ?_
    have h := h.2
    refine xw_goto hf (pc := 9) dL_weightOf_9 (tgt := 16) rfl ?_
    refine xw_iconst hf (pc := 16) dL_weightOf_16 (v := 0) (by decide) ?_
    exact xw_iret hf (pc := 17) dL_weightOf_17 hr (Nat.le_of_ble_eq_true rfl) (Nat.le_of_ble_eq_true rfl) ⟨_, _, rfl, rfl, h⟩
  · obtain ⟨rfl, h⟩ := hp
    refine xe_X (sb_of [0, 1, 2, 3] rfl rfl) (show wx x (W_L_weightOf (xg x) a0 a1 a2 a3 a4 a5 a6 a7 a8 a9 v0 v1) [(0, .ref a0), (1, .long p1), (3, .ref a3)] 1 6 4 E2 [.int 0, .ref a3] from ?_)
    obtain ⟨rfl, h⟩ := h
    refine xw_catchA hf tb rfl (by decide) mw_L_weightOf_0 ((fav hf).1 _ (List.mem_of_getElem? (i := 0) rfl)) (fun q3 => ?_)
    refine xw_astore hf (pc := 12) dL_weightOf_12 [(4, .ref q3), (0, .ref a0), (1, .long p1), (3, .ref a3)] hn (by decide) rfl ?_
    refine xw_iconst hf (pc := 14) dL_weightOf_14 (v := 1) (by decide) ?_
    exact xw_iret hf (pc := 15) dL_weightOf_15 hr (Nat.le_of_ble_eq_true rfl) (Nat.le_of_ble_eq_true rfl) ⟨_, _, rfl, rfl, h⟩
abbrev W_L_costOf (g : Gx) (a0 a1 a2 a3 a4 a5 a6 a7 a8 a9 a10 : Nat) (v0 : Nat → Int32) (v1 : Nat → Int32) (v2 : Nat → Int32) (v3 : Nat → Int64) : va_W := [(a0, .inr (8, [.ref a7, .ref a1, .ref a8, .ref a9, .ref a10])), (a1, .inr (6, [.ref a2, .ref a4, .ref a5])), (a2, .inr (3, [.ref a3])), (a3, .inl (gI g, 32, .inl v0)), (a4, .inl (gI g, 32, .inl v1)), (a5, .inl (gI g, 32, .inl v2)), (a6, .inl (gJ g, 1, .inr (.inl v3)))]
abbrev rm_L_costOf : Room := { frames := 9, cells := 2, slots := 12, locals := 143 }
theorem mw_L_costOf_0 : (Cond.classLink RL 13 "java/lang/IllegalArgumentException" : Cond) ∈ wsL_costOf := (List.mem_cons_of_mem _ (List.mem_append_left _ (List.mem_append_left _ (List.mem_append_left _ (List.mem_append_left _ (List.mem_append_left _ (List.mem_append_left _ (List.mem_of_getElem? (l := wsL_costOf_r1) (i := 0) rfl))))))))
theorem mw_L_costOf_1 : (Cond.classLink RL 20 "java/util/NoSuchElementException" : Cond) ∈ wsL_costOf := (List.mem_cons_of_mem _ (List.mem_append_left _ (List.mem_append_left _ (List.mem_append_left _ (List.mem_append_left _ (List.mem_append_left _ (List.mem_append_left _ (List.mem_of_getElem? (l := wsL_costOf_r1) (i := 1) rfl))))))))
set_option maxHeartbeats 4000000 in
set_option maxRecDepth 100000 in
theorem c_L_costOf (l : Launch) (g : Gx) (hst : l.stackTraces = false) (a0 a1 a2 a3 a4 a5 a6 a7 a8 a9 a10 : Nat) (v0 : Nat → Int32) (v1 : Nat → Int32) (v2 : Nat → Int32) (v3 : Nat → Int64) (p1 : Int64) {post : Int32 → (Nat → Int32) → (Nat → Int64) → Prop} (h : P_L_costOf post p1 v0 v1 v2 v3) : cm l g yL_costOf wsL_costOf (rm_L_costOf) [.ref a0, .long p1, .ref a6] (W_L_costOf g a0 a1 a2 a3 a4 a5 a6 a7 a8 a9 a10 v0 v1 v2 v3) (fun v X1 => ∃ (r : Int32) (uv0 : Nat → Int32) (uv3 : Nat → Int64), v = some (.int r) ∧ X1 = W_L_costOf g a0 a1 a2 a3 a4 a5 a6 a7 a8 a9 a10 uv0 v1 v2 uv3 ∧ post r uv0 uv3) := by
  refine cmW_of (cc := cL_costOf) (nL := 5) (ret := (some .int)) (hh := [(0, 9, 12, 13), (0, 9, 16, 20)]) (by decide +kernel) rfl (Nat.le_of_ble_eq_true rfl) ?_
  intro x hf hl hg hn hi hr tb
  subst hl
  subst hg
  show ww x (W_L_costOf (xg x) a0 a1 a2 a3 a4 a5 a6 a7 a8 a9 a10 v0 v1 v2 v3) [(0, .ref a0), (1, .long p1), (3, .ref a6)] 0 0 0 []
  unfold P_L_costOf at h
  refine xw_aload_n hf (pc := 0) dL_costOf_0 rfl 2 rfl ?_
  refine xw_iconst hf (pc := 1) dL_costOf_1 (v := 0) (by decide) ?_
  refine xw_aload_n hf (pc := 2) dL_costOf_2 rfl 0 rfl ?_
  refine xw_lload_n hf (pc := 3) dL_costOf_3 rfl 1 rfl ?_
  refine xw_callVX hf (pc := 4) (nA := 1) (Xr := [(a6, .inl (gJ (xg x), 1, .inr (.inl v3)))]) (rest := [.int 0, .ref a6]) (T := TX8) (c_X8_costOf (xl x) (xg x) hst a0 a1 a2 a3 a4 a5 a7 a8 a9 a10 v0 v1 v2 p1 h) gL_costOf_X8_costOf (by rfl) rfl rfl (by decide +kernel) ⟨⟨(Nat.le_of_ble_eq_true rfl), (Nat.le_of_ble_eq_true rfl)⟩, (Nat.le_of_ble_eq_true rfl), (Nat.le_of_ble_eq_true rfl)⟩ (Nat.le_of_ble_eq_true rfl) rfl rfl (sb_of [0, 1, 2, 3, 4, 5, 6] rfl rfl) rfl dL_costOf_4 (fun v X1 hp => ?_) (fun E4 X1 hp => ?_)
  · obtain ⟨r1, w2, rfl, rfl, h⟩ := hp
    refine xw_X (sb_of [0, 1, 2, 3, 4, 5, 6] rfl rfl) (show ww x (W_L_costOf (xg x) a0 a1 a2 a3 a4 a5 a6 a7 a8 a9 a10 w2 v1 v2 v3) [(0, .ref a0), (1, .long p1), (3, .ref a6)] 2 12 7 [.int r1, .int 0, .ref a6] from ?_)
    refine xw_i2l hf (pc := 7) dL_costOf_7 ?_
    refine xw_last hf (pc := 8) dL_costOf_8 6 rfl h.1 (W_L_costOf (xg x) a0 a1 a2 a3 a4 a5 a6 a7 a8 a9 a10 w2 v1 v2 (vp_updL v3 (0 : Int32).toNatClampNeg r1.toInt64)) rfl ?_
    have h := h.2
    refine xw_goto hf (pc := 9) dL_costOf_9 (tgt := 20) rfl ?_
    refine xw_iconst hf (pc := 20) dL_costOf_20 (v := 0) (by decide) ?_
    exact xw_iret hf (pc := 21) dL_costOf_21 hr (Nat.le_of_ble_eq_true rfl) (Nat.le_of_ble_eq_true rfl) ⟨_, _, _, rfl, rfl, h⟩
  · obtain ⟨w3, rfl, h⟩ := hp
    refine xe_X (sb_of [0, 1, 2, 3, 4, 5, 6] rfl rfl) (show wx x (W_L_costOf (xg x) a0 a1 a2 a3 a4 a5 a6 a7 a8 a9 a10 w3 v1 v2 v3) [(0, .ref a0), (1, .long p1), (3, .ref a6)] 2 12 4 E4 [.int 0, .ref a6] from ?_)
    rcases h with ⟨rfl, h⟩ | ⟨rfl, h⟩
    · refine xw_catchA hf tb rfl (by decide) mw_L_costOf_0 ((fav hf).1 _ (List.mem_of_getElem? (i := 0) rfl)) (fun q5 => ?_)
      refine xw_astore hf (pc := 12) dL_costOf_12 [(4, .ref q5), (0, .ref a0), (1, .long p1), (3, .ref a6)] hn (by decide) rfl ?_
      refine xw_iconst hf (pc := 14) dL_costOf_14 (v := 1) (by decide) ?_
      exact xw_iret hf (pc := 15) dL_costOf_15 hr (Nat.le_of_ble_eq_true rfl) (Nat.le_of_ble_eq_true rfl) ⟨_, _, _, rfl, rfl, h⟩
    · refine xw_catchB hf tb (by decide) mw_L_costOf_0 ((fav hf).2.2.2.2.2.1 _ (List.mem_of_getElem? (i := 1) rfl)) rfl (by decide) mw_L_costOf_1 ((fav hf).1 _ (List.mem_of_getElem? (i := 2) rfl)) (fun q6 => ?_)
      refine xw_astore hf (pc := 16) dL_costOf_16 [(4, .ref q6), (0, .ref a0), (1, .long p1), (3, .ref a6)] hn (by decide) rfl ?_
      refine xw_iconst hf (pc := 18) dL_costOf_18 (v := 2) (by decide) ?_
      exact xw_iret hf (pc := 19) dL_costOf_19 hr (Nat.le_of_ble_eq_true rfl) (Nat.le_of_ble_eq_true rfl) ⟨_, _, _, rfl, rfl, h⟩
abbrev W_L_missingLetter (g : Gx) (a0 a1 a2 a3 a4 a5 a6 a7 a8 a9 a10 : Nat) (v0 : Nat → Int32) (v1 : Nat → Int64) : va_W := [(a0, .inr (8, [.ref a5, .ref a1, .ref a6, .ref a7, .ref a8])), (a1, .inr (6, [.ref a2, .ref a9, .ref a10])), (a2, .inr (3, [.ref a3])), (a3, .inl (gI g, 32, .inl v0)), (a4, .inl (gJ g, 1, .inr (.inl v1)))]
abbrev rm_L_missingLetter : Room := { frames := 9, cells := 1, slots := 6, locals := 143 }
theorem mw_L_missingLetter_0 : (Cond.classLink RL 13 "java/lang/IllegalArgumentException" : Cond) ∈ wsL_missingLetter := (List.mem_cons_of_mem _ (List.mem_append_left _ (List.mem_append_left _ (List.mem_append_left _ (List.mem_append_left _ (List.mem_append_left _ (List.mem_of_getElem? (l := wsL_missingLetter_r1) (i := 0) rfl)))))))
set_option maxHeartbeats 4000000 in
set_option maxRecDepth 100000 in
theorem c_L_missingLetter (l : Launch) (g : Gx) (hst : l.stackTraces = false) (a0 a1 a2 a3 a4 a5 a6 a7 a8 a9 a10 : Nat) (v0 : Nat → Int32) (v1 : Nat → Int64) (p1 : Int64) {post : Int32 → (Nat → Int64) → Prop} (h : P_L_missingLetter post p1 v0 v1) : cm l g yL_missingLetter wsL_missingLetter (rm_L_missingLetter) [.ref a0, .long p1, .ref a4] (W_L_missingLetter g a0 a1 a2 a3 a4 a5 a6 a7 a8 a9 a10 v0 v1) (fun v X1 => ∃ (r : Int32) (uv1 : Nat → Int64), v = some (.int r) ∧ X1 = W_L_missingLetter g a0 a1 a2 a3 a4 a5 a6 a7 a8 a9 a10 v0 uv1 ∧ post r uv1) := by
  refine cmW_of (cc := cL_missingLetter) (nL := 5) (ret := (some .int)) (hh := [(0, 9, 12, 13)]) (by decide +kernel) rfl (Nat.le_of_ble_eq_true rfl) ?_
  intro x hf hl hg hn hi hr tb
  subst hl
  subst hg
  show ww x (W_L_missingLetter (xg x) a0 a1 a2 a3 a4 a5 a6 a7 a8 a9 a10 v0 v1) [(0, .ref a0), (1, .long p1), (3, .ref a4)] 0 0 0 []
  unfold P_L_missingLetter at h
  refine xw_aload_n hf (pc := 0) dL_missingLetter_0 rfl 2 rfl ?_
  refine xw_iconst hf (pc := 1) dL_missingLetter_1 (v := 0) (by decide) ?_
  refine xw_aload_n hf (pc := 2) dL_missingLetter_2 rfl 0 rfl ?_
  refine xw_lload_n hf (pc := 3) dL_missingLetter_3 rfl 1 rfl ?_
  refine xw_callVX hf (pc := 4) (nA := 1) (Xr := [(a4, .inl (gJ (xg x), 1, .inr (.inl v1)))]) (rest := [.int 0, .ref a4]) (T := TX8) (c_X8_missingLetter (xl x) (xg x) hst a0 a1 a2 a3 a5 a6 a7 a8 a9 a10 v0 p1 h) gL_missingLetter_X8_missingLetter (by rfl) rfl rfl (by decide +kernel) ⟨⟨(Nat.le_of_ble_eq_true rfl), (Nat.le_of_ble_eq_true rfl)⟩, (Nat.le_of_ble_eq_true rfl), (Nat.le_of_ble_eq_true rfl)⟩ (Nat.le_of_ble_eq_true rfl) rfl rfl (sb_of [0, 1, 2, 3, 4] rfl rfl) rfl dL_missingLetter_4 (fun v X1 hp => ?_) (fun E2 X1 hp => ?_)
  · obtain ⟨r1, rfl, rfl, h⟩ := hp
    refine xw_X (sb_of [0, 1, 2, 3, 4] rfl rfl) (show ww x (W_L_missingLetter (xg x) a0 a1 a2 a3 a4 a5 a6 a7 a8 a9 a10 v0 v1) [(0, .ref a0), (1, .long p1), (3, .ref a4)] 1 6 7 [.int r1, .int 0, .ref a4] from ?_)
    refine xw_i2l hf (pc := 7) dL_missingLetter_7 ?_
    refine xw_last hf (pc := 8) dL_missingLetter_8 4 rfl h.1 (W_L_missingLetter (xg x) a0 a1 a2 a3 a4 a5 a6 a7 a8 a9 a10 v0 (vp_updL v1 (0 : Int32).toNatClampNeg r1.toInt64)) rfl ?_
    have h := h.2
    refine xw_goto hf (pc := 9) dL_missingLetter_9 (tgt := 16) rfl ?_
    refine xw_iconst hf (pc := 16) dL_missingLetter_16 (v := 0) (by decide) ?_
    exact xw_iret hf (pc := 17) dL_missingLetter_17 hr (Nat.le_of_ble_eq_true rfl) (Nat.le_of_ble_eq_true rfl) ⟨_, _, rfl, rfl, h⟩
  · obtain ⟨rfl, h⟩ := hp
    refine xe_X (sb_of [0, 1, 2, 3, 4] rfl rfl) (show wx x (W_L_missingLetter (xg x) a0 a1 a2 a3 a4 a5 a6 a7 a8 a9 a10 v0 v1) [(0, .ref a0), (1, .long p1), (3, .ref a4)] 1 6 4 E2 [.int 0, .ref a4] from ?_)
    obtain ⟨rfl, h⟩ := h
    refine xw_catchA hf tb rfl (by decide) mw_L_missingLetter_0 ((fav hf).1 _ (List.mem_of_getElem? (i := 0) rfl)) (fun q3 => ?_)
    refine xw_astore hf (pc := 12) dL_missingLetter_12 [(4, .ref q3), (0, .ref a0), (1, .long p1), (3, .ref a4)] hn (by decide) rfl ?_
    refine xw_iconst hf (pc := 14) dL_missingLetter_14 (v := 1) (by decide) ?_
    exact xw_iret hf (pc := 15) dL_missingLetter_15 hr (Nat.le_of_ble_eq_true rfl) (Nat.le_of_ble_eq_true rfl) ⟨_, _, rfl, rfl, h⟩
abbrev W_L_refusalOf (g : Gx) (a0 a1 a2 a3 a4 a5 a6 a7 a8 a9 a10 a11 a12 a13 a14 : Nat) (v0 : Int32) (v1 : Nat → Int64) (v2 : Nat → Int32) (v3 : Nat → Int32) (v4 : Nat → Int32) (v5 : Nat → Int64) : va_W := [(a0, .inr (8, [.ref a1, .ref a4, .ref a10, .ref a11, .ref a12])), (a1, .inr (2, [.ref a2, .ref a13, .ref a14])), (a2, .inr (7, [.ref a3, .int v0])), (a3, .inl (gJ g, 60, .inr (.inl v1))), (a4, .inr (6, [.ref a5, .ref a7, .ref a8])), (a5, .inr (3, [.ref a6])), (a6, .inl (gI g, 32, .inl v2)), (a7, .inl (gI g, 32, .inl v3)), (a8, .inl (gI g, 32, .inl v4)), (a9, .inl (gJ g, 1, .inr (.inl v5)))]
abbrev rm_L_refusalOf : Room := { frames := 10, cells := 2, slots := 12, locals := 165 }
theorem mw_L_refusalOf_0 : (Cond.classLink RL 13 "java/lang/IllegalArgumentException" : Cond) ∈ wsL_refusalOf := (List.mem_cons_of_mem _ (List.mem_append_left _ (List.mem_append_left _ (List.mem_append_left _ (List.mem_append_left _ (List.mem_append_left _ (List.mem_append_left _ (List.mem_append_left _ (List.mem_of_getElem? (l := wsL_refusalOf_r1) (i := 0) rfl)))))))))
set_option maxHeartbeats 4000000 in
set_option maxRecDepth 100000 in
theorem c_L_refusalOf (l : Launch) (g : Gx) (hst : l.stackTraces = false) (a0 a1 a2 a3 a4 a5 a6 a7 a8 a9 a10 a11 a12 a13 a14 : Nat) (v0 : Int32) (v1 : Nat → Int64) (v2 : Nat → Int32) (v3 : Nat → Int32) (v4 : Nat → Int32) (v5 : Nat → Int64) (p1 : Int64) (p3 : Int32) {post : Int32 → (Nat → Int32) → (Nat → Int64) → Prop} (h : P_L_refusalOf post p1 p3 v0 v1 v2 v3 v4 v5) : cm l g yL_refusalOf wsL_refusalOf (rm_L_refusalOf) [.ref a0, .long p1, .int p3, .ref a9] (W_L_refusalOf g a0 a1 a2 a3 a4 a5 a6 a7 a8 a9 a10 a11 a12 a13 a14 v0 v1 v2 v3 v4 v5) (fun v X1 => ∃ (r : Int32) (uv2 : Nat → Int32) (uv5 : Nat → Int64), v = some (.int r) ∧ X1 = W_L_refusalOf g a0 a1 a2 a3 a4 a5 a6 a7 a8 a9 a10 a11 a12 a13 a14 v0 v1 uv2 v3 v4 uv5 ∧ post r uv2 uv5) := by
  refine cmW_of (cc := cL_refusalOf) (nL := 6) (ret := (some .int)) (hh := [(0, 11, 14, 13)]) (by decide +kernel) rfl (Nat.le_of_ble_eq_true rfl) ?_
  intro x hf hl hg hn hi hr tb
  subst hl
  subst hg
  show ww x (W_L_refusalOf (xg x) a0 a1 a2 a3 a4 a5 a6 a7 a8 a9 a10 a11 a12 a13 a14 v0 v1 v2 v3 v4 v5) [(0, .ref a0), (1, .long p1), (3, .int p3), (4, .ref a9)] 0 0 0 []
  unfold P_L_refusalOf at h
  refine xw_aload hf (pc := 0) dL_refusalOf_0 3 rfl ?_
  refine xw_iconst hf (pc := 2) dL_refusalOf_2 (v := 0) (by decide) ?_
  refine xw_aload_n hf (pc := 3) dL_refusalOf_3 rfl 0 rfl ?_
  refine xw_lload_n hf (pc := 4) dL_refusalOf_4 rfl 1 rfl ?_
  refine xw_iload_n hf (pc := 5) dL_refusalOf_5 rfl 2 rfl ?_
  refine xw_callVX hf (pc := 6) (nA := 2) (Xr := [(a9, .inl (gJ (xg x), 1, .inr (.inl v5)))]) (rest := [.int 0, .ref a9]) (T := TX8) (c_X8_refusalOf (xl x) (xg x) hst a0 a1 a2 a3 a4 a5 a6 a7 a8 a10 a11 a12 a13 a14 v0 v1 v2 v3 v4 p1 p3 h) gL_refusalOf_X8_refusalOf (by rfl) rfl rfl (by decide +kernel) ⟨⟨(Nat.le_of_ble_eq_true rfl), (Nat.le_of_ble_eq_true rfl)⟩, (Nat.le_of_ble_eq_true rfl), (Nat.le_of_ble_eq_true rfl)⟩ (Nat.le_of_ble_eq_true rfl) rfl rfl (sb_of [0, 1, 2, 3, 4, 5, 6, 7, 8, 9] rfl rfl) rfl dL_refusalOf_6 (fun v X1 hp => ?_) (fun E4 X1 hp => ?_)
  · obtain ⟨r1, w2, rfl, rfl, h⟩ := hp
    refine xw_X (sb_of [0, 1, 2, 3, 4, 5, 6, 7, 8, 9] rfl rfl) (show ww x (W_L_refusalOf (xg x) a0 a1 a2 a3 a4 a5 a6 a7 a8 a9 a10 a11 a12 a13 a14 v0 v1 w2 v3 v4 v5) [(0, .ref a0), (1, .long p1), (3, .int p3), (4, .ref a9)] 2 12 9 [.int r1, .int 0, .ref a9] from ?_)
    refine xw_i2l hf (pc := 9) dL_refusalOf_9 ?_
    refine xw_last hf (pc := 10) dL_refusalOf_10 9 rfl h.1 (W_L_refusalOf (xg x) a0 a1 a2 a3 a4 a5 a6 a7 a8 a9 a10 a11 a12 a13 a14 v0 v1 w2 v3 v4 (vp_updL v5 (0 : Int32).toNatClampNeg r1.toInt64)) rfl ?_
    have h := h.2
    refine xw_goto hf (pc := 11) dL_refusalOf_11 (tgt := 18) rfl ?_
    refine xw_iconst hf (pc := 18) dL_refusalOf_18 (v := 0) (by decide) ?_
    exact xw_iret hf (pc := 19) dL_refusalOf_19 hr (Nat.le_of_ble_eq_true rfl) (Nat.le_of_ble_eq_true rfl) ⟨_, _, _, rfl, rfl, h⟩
  · obtain ⟨w3, rfl, h⟩ := hp
    refine xe_X (sb_of [0, 1, 2, 3, 4, 5, 6, 7, 8, 9] rfl rfl) (show wx x (W_L_refusalOf (xg x) a0 a1 a2 a3 a4 a5 a6 a7 a8 a9 a10 a11 a12 a13 a14 v0 v1 w3 v3 v4 v5) [(0, .ref a0), (1, .long p1), (3, .int p3), (4, .ref a9)] 2 12 6 E4 [.int 0, .ref a9] from ?_)
    obtain ⟨rfl, h⟩ := h
    refine xw_catchA hf tb rfl (by decide) mw_L_refusalOf_0 ((fav hf).1 _ (List.mem_of_getElem? (i := 0) rfl)) (fun q5 => ?_)
    refine xw_astore hf (pc := 14) dL_refusalOf_14 [(5, .ref q5), (0, .ref a0), (1, .long p1), (3, .int p3), (4, .ref a9)] hn (by decide) rfl ?_
    refine xw_iconst hf (pc := 16) dL_refusalOf_16 (v := 1) (by decide) ?_
    exact xw_iret hf (pc := 17) dL_refusalOf_17 hr (Nat.le_of_ble_eq_true rfl) (Nat.le_of_ble_eq_true rfl) ⟨_, _, _, rfl, rfl, h⟩
abbrev W_L_sell (g : Gx) (a0 a1 a2 a3 a4 a5 a6 a7 a8 a9 a10 a11 a12 a13 a14 a15 a16 a17 a18 : Nat) (v0 : Int32) (v1 : Nat → Int64) (v2 : Nat → Int32) (v3 : Nat → Int32) (v4 : Nat → Int32) (v5 : Int32) (v6 : Nat → Int32) (v7 : Nat → Int64) : va_W := [(a0, .inr (8, [.ref a1, .ref a4, .ref a9, .ref a14, .ref a15])), (a1, .inr (2, [.ref a2, .ref a16, .ref a17])), (a2, .inr (7, [.ref a3, .int v0])), (a3, .inl (gJ g, 60, .inr (.inl v1))), (a4, .inr (6, [.ref a5, .ref a7, .ref a8])), (a5, .inr (3, [.ref a6])), (a6, .inl (gI g, 32, .inl v2)), (a7, .inl (gI g, 32, .inl v3)), (a8, .inl (gI g, 32, .inl v4)), (a9, .inr (1, [.ref a13, .ref a18, .ref a10, .int v5])), (a10, .inr (3, [.ref a11])), (a11, .inl (gI g, 32, .inl v6)), (a12, .inl (gJ g, 1, .inr (.inl v7)))]
abbrev rm_L_sell (mc ms : Nat) : Room := { frames := 11, cells := mc, slots := ms, locals := 410 }
theorem mw_L_sell_0 : (Cond.classLink RL 13 "java/lang/IllegalArgumentException" : Cond) ∈ wsL_sell := (List.mem_cons_of_mem _ (List.mem_append_left _ (List.mem_append_left _ (List.mem_append_left _ (List.mem_append_left _ (List.mem_append_left _ (List.mem_append_left _ (List.mem_append_left _ (List.mem_append_left _ (List.mem_append_left _ (List.mem_append_left _ (List.mem_append_left _ (List.mem_of_getElem? (l := wsL_sell_r1) (i := 0) rfl)))))))))))))
theorem mw_L_sell_1 : (Cond.classLink RL 15 "java/lang/IllegalStateException" : Cond) ∈ wsL_sell := (List.mem_cons_of_mem _ (List.mem_append_left _ (List.mem_append_left _ (List.mem_append_left _ (List.mem_append_left _ (List.mem_append_left _ (List.mem_append_left _ (List.mem_append_left _ (List.mem_append_left _ (List.mem_append_left _ (List.mem_append_left _ (List.mem_append_left _ (List.mem_of_getElem? (l := wsL_sell_r1) (i := 1) rfl)))))))))))))
set_option maxHeartbeats 4000000 in
set_option maxRecDepth 100000 in
theorem c_L_sell (l : Launch) (g : Gx) (hst : l.stackTraces = false) (a0 a1 a2 a3 a4 a5 a6 a7 a8 a9 a10 a11 a12 a13 a14 a15 a16 a17 a18 : Nat) (v0 : Int32) (v1 : Nat → Int64) (v2 : Nat → Int32) (v3 : Nat → Int32) (v4 : Nat → Int32) (v5 : Int32) (v6 : Nat → Int32) (v7 : Nat → Int64) (v8 : ZL) (p1 : Int64) (p3 : Int32) {post : Int32 → (Nat → Int32) → Int32 → (Nat → Int32) → (Nat → Int64) → ZL → Prop} {mc ms : Nat} (h : P_L_sell post mc ms p1 p3 v0 v1 v2 v3 v4 v5 v6 v7 v8) : cm l g yL_sell wsL_sell (rm_L_sell mc ms) [.ref a0, .long p1, .int p3, .ref a12] (W_L_sell g a0 a1 a2 a3 a4 a5 a6 a7 a8 a9 a10 a11 a12 a13 a14 a15 a16 a17 a18 v0 v1 v2 v3 v4 v5 v6 v7 ++ ZP g a13 v8) (fun v X1 => ∃ (r : Int32) (uv2 : Nat → Int32) (uv5 : Int32) (uv6 : Nat → Int32) (uv7 : Nat → Int64) (uv8 : ZL), v = some (.int r) ∧ X1 = W_L_sell g a0 a1 a2 a3 a4 a5 a6 a7 a8 a9 a10 a11 a12 a13 a14 a15 a16 a17 a18 v0 v1 uv2 v3 v4 uv5 uv6 uv7 ++ ZP g a13 uv8 ∧ post r uv2 uv5 uv6 uv7 uv8) := by
  refine cmW_of (cc := cL_sell) (nL := 6) (ret := (some .int)) (hh := [(0, 11, 14, 13), (0, 11, 18, 15)]) (by decide +kernel) rfl (Nat.le_of_ble_eq_true rfl) ?_
  intro x hf hl hg hn hi hr tb
  subst hl
  subst hg
  show ww x (W_L_sell (xg x) a0 a1 a2 a3 a4 a5 a6 a7 a8 a9 a10 a11 a12 a13 a14 a15 a16 a17 a18 v0 v1 v2 v3 v4 v5 v6 v7 ++ ZP (xg x) a13 v8) [(0, .ref a0), (1, .long p1), (3, .int p3), (4, .ref a12)] 0 0 0 []
  unfold P_L_sell at h
  have hk : 0 + mc ≤ (rm_L_sell mc ms).cells ∧ 0 + ms ≤ (rm_L_sell mc ms).slots := ⟨Nat.le_of_eq (Nat.zero_add mc), Nat.le_of_eq (Nat.zero_add ms)⟩
  refine xw_aload hf (pc := 0) dL_sell_0 3 rfl ?_
  refine xw_iconst hf (pc := 2) dL_sell_2 (v := 0) (by decide) ?_
  refine xw_aload_n hf (pc := 3) dL_sell_3 rfl 0 rfl ?_
  refine xw_lload_n hf (pc := 4) dL_sell_4 rfl 1 rfl ?_
  refine xw_iload_n hf (pc := 5) dL_sell_5 rfl 2 rfl ?_
  obtain ⟨mc6, ms7, mc8, ms9, ⟨hb1, hb2⟩, h⟩ := h
  refine xw_callVX hf (pc := 6) (nA := 2) (Xr := [(a12, .inl (gJ (xg x), 1, .inr (.inl v7)))]) (rest := [.int 0, .ref a12]) (T := TX8) (c_X8_sell (xl x) (xg x) hst a0 a1 a2 a3 a4 a5 a6 a7 a8 a9 a10 a11 a13 a14 a15 a16 a17 a18 v0 v1 v2 v3 v4 v5 v6 v8 p1 p3 h) gL_sell_X8_sell (by rfl) rfl rfl (by decide +kernel) ⟨⟨(Nat.le_of_ble_eq_true rfl), (Nat.le_of_ble_eq_true rfl)⟩, (Nat.le_trans (show 0 + mc6 ≤ 0 + mc by omega) hk.1), (Nat.le_trans (show 0 + ms7 ≤ 0 + ms by omega) hk.2)⟩ (Nat.le_of_ble_eq_true rfl) rfl rfl (sb_zc (sb_of [0, 1, 2, 3, 4, 5, 6, 7, 8, 9, 10, 11, 12] rfl rfl)) rfl dL_sell_6 (fun v X1 hp => ?_) (fun E14 X1 hp => ?_)
  · obtain ⟨r1, w2, w3, w4, w5, rfl, rfl, h⟩ := hp
    have hk : 0 + mc6 + mc8 ≤ (rm_L_sell mc ms).cells ∧ 0 + ms7 + ms9 ≤ (rm_L_sell mc ms).slots := ⟨Nat.le_trans (show 0 + mc6 + mc8 ≤ 0 + mc by omega) hk.1, Nat.le_trans (show 0 + ms7 + ms9 ≤ 0 + ms by omega) hk.2⟩
    refine xw_X (sb_cz (sb_of [0, 1, 2, 3, 4, 5, 6, 7, 8, 9, 10, 11, 12] rfl rfl)) (show ww x (W_L_sell (xg x) a0 a1 a2 a3 a4 a5 a6 a7 a8 a9 a10 a11 a12 a13 a14 a15 a16 a17 a18 v0 v1 w2 v3 v4 w3 w4 v7 ++ ZP (xg x) a13 w5) [(0, .ref a0), (1, .long p1), (3, .int p3), (4, .ref a12)] (0 + mc6) (0 + ms7) 9 [.int r1, .int 0, .ref a12] from ?_)
    refine xw_i2l hf (pc := 9) dL_sell_9 ?_
    refine xw_last hf (pc := 10) dL_sell_10 12 rfl h.1 (W_L_sell (xg x) a0 a1 a2 a3 a4 a5 a6 a7 a8 a9 a10 a11 a12 a13 a14 a15 a16 a17 a18 v0 v1 w2 v3 v4 w3 w4 (vp_updL v7 (0 : Int32).toNatClampNeg r1.toInt64) ++ ZP (xg x) a13 w5) rfl ?_
    have h := h.2
    refine xw_goto hf (pc := 11) dL_sell_11 (tgt := 22) rfl ?_
    refine xw_iconst hf (pc := 22) dL_sell_22 (v := 0) (by decide) ?_
    exact xw_iret hf (pc := 23) dL_sell_23 hr (Nat.le_trans (Nat.le_add_right _ _) hk.1) (Nat.le_trans (Nat.le_add_right _ _) hk.2) ⟨_, _, _, _, _, _, rfl, rfl, h⟩
  · have hk : 0 + mc6 + mc8 ≤ (rm_L_sell mc ms).cells ∧ 0 + ms7 + ms9 ≤ (rm_L_sell mc ms).slots := ⟨Nat.le_trans (show 0 + mc6 + mc8 ≤ 0 + mc by omega) hk.1, Nat.le_trans (show 0 + ms7 + ms9 ≤ 0 + ms by omega) hk.2⟩
    obtain ⟨w10, w11, w12, w13, rfl, h⟩ := hp
    refine xe_X (sb_cz (sb_of [0, 1, 2, 3, 4, 5, 6, 7, 8, 9, 10, 11, 12] rfl rfl)) (show wx x (W_L_sell (xg x) a0 a1 a2 a3 a4 a5 a6 a7 a8 a9 a10 a11 a12 a13 a14 a15 a16 a17 a18 v0 v1 w10 v3 v4 w11 w12 v7 ++ ZP (xg x) a13 w13) [(0, .ref a0), (1, .long p1), (3, .int p3), (4, .ref a12)] (0 + mc6) (0 + ms7) 6 E14 [.int 0, .ref a12] from ?_)
    rcases h with ⟨rfl, h⟩ | ⟨rfl, h⟩
    · refine xw_catchA hf tb rfl (by decide) mw_L_sell_0 ((fav hf).1 _ (List.mem_of_getElem? (i := 0) rfl)) (fun q15 => ?_)
      refine xw_astore hf (pc := 14) dL_sell_14 [(5, .ref q15), (0, .ref a0), (1, .long p1), (3, .int p3), (4, .ref a12)] hn (by decide) rfl ?_
      refine xw_iconst hf (pc := 16) dL_sell_16 (v := 1) (by decide) ?_
      exact xw_iret hf (pc := 17) dL_sell_17 hr (Nat.le_trans (Nat.le_add_right _ _) hk.1) (Nat.le_trans (Nat.le_add_right _ _) hk.2) ⟨_, _, _, _, _, _, rfl, rfl, h⟩
    · refine xw_catchB hf tb (by decide) mw_L_sell_0 ((fav hf).2.2.2.2.2.1 _ (List.mem_of_getElem? (i := 0) rfl)) rfl (by decide) mw_L_sell_1 ((fav hf).1 _ (List.mem_of_getElem? (i := 1) rfl)) (fun q16 => ?_)
      refine xw_astore hf (pc := 18) dL_sell_18 [(5, .ref q16), (0, .ref a0), (1, .long p1), (3, .int p3), (4, .ref a12)] hn (by decide) rfl ?_
      refine xw_iconst hf (pc := 20) dL_sell_20 (v := 2) (by decide) ?_
      exact xw_iret hf (pc := 21) dL_sell_21 hr (Nat.le_trans (Nat.le_add_right _ _) hk.1) (Nat.le_trans (Nat.le_add_right _ _) hk.2) ⟨_, _, _, _, _, _, rfl, rfl, h⟩
abbrev W_L_affordableWords (g : Gx) (a0 a1 a2 a3 a4 a5 a6 a7 a8 a9 a10 a11 a12 a13 a14 : Nat) (v0 : Int32) (v1 : Nat → Int64) (v2 : Nat → Int32) (v3 : Nat → Int32) (v4 : Nat → Int32) (v5 : Nat → Int64) : va_W := [(a0, .inr (8, [.ref a1, .ref a4, .ref a10, .ref a11, .ref a12])), (a1, .inr (2, [.ref a2, .ref a13, .ref a14])), (a2, .inr (7, [.ref a3, .int v0])), (a3, .inl (gJ g, 60, .inr (.inl v1))), (a4, .inr (6, [.ref a5, .ref a7, .ref a8])), (a5, .inr (3, [.ref a6])), (a6, .inl (gI g, 32, .inl v2)), (a7, .inl (gI g, 32, .inl v3)), (a8, .inl (gI g, 32, .inl v4)), (a9, .inl (gJ g, 1, .inr (.inl v5)))]
abbrev rm_L_affordableWords : Room := { frames := 10, cells := 1, slots := 6, locals := 165 }
theorem mw_L_affordableWords_0 : (Cond.classLink RL 13 "java/lang/IllegalArgumentException" : Cond) ∈ wsL_affordableWords := (List.mem_cons_of_mem _ (List.mem_append_left _ (List.mem_append_left _ (List.mem_append_left _ (List.mem_append_left _ (List.mem_append_left _ (List.mem_append_left _ (List.mem_append_left _ (List.mem_of_getElem? (l := wsL_affordableWords_r1) (i := 0) rfl)))))))))
set_option maxHeartbeats 4000000 in
set_option maxRecDepth 100000 in
theorem c_L_affordableWords (l : Launch) (g : Gx) (hst : l.stackTraces = false) (a0 a1 a2 a3 a4 a5 a6 a7 a8 a9 a10 a11 a12 a13 a14 : Nat) (v0 : Int32) (v1 : Nat → Int64) (v2 : Nat → Int32) (v3 : Nat → Int32) (v4 : Nat → Int32) (v5 : Nat → Int64) (p1 : Int32) {post : Int32 → (Nat → Int32) → (Nat → Int64) → Prop} (h : P_L_affordableWords post p1 v0 v1 v2 v3 v4 v5) : cm l g yL_affordableWords wsL_affordableWords (rm_L_affordableWords) [.ref a0, .int p1, .ref a9] (W_L_affordableWords g a0 a1 a2 a3 a4 a5 a6 a7 a8 a9 a10 a11 a12 a13 a14 v0 v1 v2 v3 v4 v5) (fun v X1 => ∃ (r : Int32) (uv2 : Nat → Int32) (uv5 : Nat → Int64), v = some (.int r) ∧ X1 = W_L_affordableWords g a0 a1 a2 a3 a4 a5 a6 a7 a8 a9 a10 a11 a12 a13 a14 v0 v1 uv2 v3 v4 uv5 ∧ post r uv2 uv5) := by
  refine cmW_of (cc := cL_affordableWords) (nL := 4) (ret := (some .int)) (hh := [(0, 9, 12, 13)]) (by decide +kernel) rfl (Nat.le_of_ble_eq_true rfl) ?_
  intro x hf hl hg hn hi hr tb
  subst hl
  subst hg
  show ww x (W_L_affordableWords (xg x) a0 a1 a2 a3 a4 a5 a6 a7 a8 a9 a10 a11 a12 a13 a14 v0 v1 v2 v3 v4 v5) [(0, .ref a0), (1, .int p1), (2, .ref a9)] 0 0 0 []
  unfold P_L_affordableWords at h
  refine xw_aload_n hf (pc := 0) dL_affordableWords_0 rfl 2 rfl ?_
  refine xw_iconst hf (pc := 1) dL_affordableWords_1 (v := 0) (by decide) ?_
  refine xw_aload_n hf (pc := 2) dL_affordableWords_2 rfl 0 rfl ?_
  refine xw_iload_n hf (pc := 3) dL_affordableWords_3 rfl 1 rfl ?_
  refine xw_callVX hf (pc := 4) (nA := 1) (Xr := [(a9, .inl (gJ (xg x), 1, .inr (.inl v5)))]) (rest := [.int 0, .ref a9]) (T := TX8) (c_X8_affordableWords (xl x) (xg x) hst a0 a1 a2 a3 a4 a5 a6 a7 a8 a10 a11 a12 a13 a14 v0 v1 v2 v3 v4 p1 h) gL_affordableWords_X8_affordableWords (by rfl) rfl rfl (by decide +kernel) ⟨⟨(Nat.le_of_ble_eq_true rfl), (Nat.le_of_ble_eq_true rfl)⟩, (Nat.le_of_ble_eq_true rfl), (Nat.le_of_ble_eq_true rfl)⟩ (Nat.le_of_ble_eq_true rfl) rfl rfl (sb_of [0, 1, 2, 3, 4, 5, 6, 7, 8, 9] rfl rfl) rfl dL_affordableWords_4 (fun v X1 hp => ?_) (fun E4 X1 hp => ?_)
  · obtain ⟨r1, w2, rfl, rfl, h⟩ := hp
    refine xw_X (sb_of [0, 1, 2, 3, 4, 5, 6, 7, 8, 9] rfl rfl) (show ww x (W_L_affordableWords (xg x) a0 a1 a2 a3 a4 a5 a6 a7 a8 a9 a10 a11 a12 a13 a14 v0 v1 w2 v3 v4 v5) [(0, .ref a0), (1, .int p1), (2, .ref a9)] 1 6 7 [.int r1, .int 0, .ref a9] from ?_)
    refine xw_i2l hf (pc := 7) dL_affordableWords_7 ?_
    refine xw_last hf (pc := 8) dL_affordableWords_8 9 rfl h.1 (W_L_affordableWords (xg x) a0 a1 a2 a3 a4 a5 a6 a7 a8 a9 a10 a11 a12 a13 a14 v0 v1 w2 v3 v4 (vp_updL v5 (0 : Int32).toNatClampNeg r1.toInt64)) rfl ?_
    have h := h.2
    refine xw_goto hf (pc := 9) dL_affordableWords_9 (tgt := 15) rfl ?_
    refine xw_iconst hf (pc := 15) dL_affordableWords_15 (v := 0) (by decide) ?_
    exact xw_iret hf (pc := 16) dL_affordableWords_16 hr (Nat.le_of_ble_eq_true rfl) (Nat.le_of_ble_eq_true rfl) ⟨_, _, _, rfl, rfl, h⟩
  · obtain ⟨w3, rfl, h⟩ := hp
    refine xe_X (sb_of [0, 1, 2, 3, 4, 5, 6, 7, 8, 9] rfl rfl) (show wx x (W_L_affordableWords (xg x) a0 a1 a2 a3 a4 a5 a6 a7 a8 a9 a10 a11 a12 a13 a14 v0 v1 w3 v3 v4 v5) [(0, .ref a0), (1, .int p1), (2, .ref a9)] 1 6 4 E4 [.int 0, .ref a9] from ?_)
    obtain ⟨rfl, h⟩ := h
    refine xw_catchA hf tb rfl (by decide) mw_L_affordableWords_0 ((fav hf).1 _ (List.mem_of_getElem? (i := 0) rfl)) (fun q5 => ?_)
    refine xw_astore_n hf (pc := 12) dL_affordableWords_12 rfl [(3, .ref q5), (0, .ref a0), (1, .int p1), (2, .ref a9)] hn (by decide) rfl ?_
    refine xw_iconst hf (pc := 13) dL_affordableWords_13 (v := 1) (by decide) ?_
    exact xw_iret hf (pc := 14) dL_affordableWords_14 hr (Nat.le_of_ble_eq_true rfl) (Nat.le_of_ble_eq_true rfl) ⟨_, _, _, rfl, rfl, h⟩
abbrev W_L_bestWord (g : Gx) (a0 a1 a2 a3 a4 a5 a6 a7 a8 a9 a10 a11 a12 a13 a14 : Nat) (v0 : Int32) (v1 : Nat → Int64) (v2 : Nat → Int32) (v3 : Nat → Int32) (v4 : Nat → Int32) (v5 : Nat → Int64) : va_W := [(a0, .inr (8, [.ref a1, .ref a4, .ref a10, .ref a11, .ref a12])), (a1, .inr (2, [.ref a2, .ref a13, .ref a14])), (a2, .inr (7, [.ref a3, .int v0])), (a3, .inl (gJ g, 60, .inr (.inl v1))), (a4, .inr (6, [.ref a5, .ref a7, .ref a8])), (a5, .inr (3, [.ref a6])), (a6, .inl (gI g, 32, .inl v2)), (a7, .inl (gI g, 32, .inl v3)), (a8, .inl (gI g, 32, .inl v4)), (a9, .inl (gJ g, 1, .inr (.inl v5)))]
abbrev rm_L_bestWord : Room := { frames := 10, cells := 1, slots := 6, locals := 163 }
theorem mw_L_bestWord_0 : (Cond.classLink RL 13 "java/lang/IllegalArgumentException" : Cond) ∈ wsL_bestWord := (List.mem_cons_of_mem _ (List.mem_append_left _ (List.mem_append_left _ (List.mem_append_left _ (List.mem_append_left _ (List.mem_append_left _ (List.mem_append_left _ (List.mem_append_left _ (List.mem_of_getElem? (l := wsL_bestWord_r1) (i := 0) rfl)))))))))
set_option maxHeartbeats 4000000 in
set_option maxRecDepth 100000 in
theorem c_L_bestWord (l : Launch) (g : Gx) (hst : l.stackTraces = false) (a0 a1 a2 a3 a4 a5 a6 a7 a8 a9 a10 a11 a12 a13 a14 : Nat) (v0 : Int32) (v1 : Nat → Int64) (v2 : Nat → Int32) (v3 : Nat → Int32) (v4 : Nat → Int32) (v5 : Nat → Int64) (p1 : Int32) {post : Int32 → (Nat → Int32) → (Nat → Int64) → Prop} (h : P_L_bestWord post p1 v0 v1 v2 v3 v4 v5) : cm l g yL_bestWord wsL_bestWord (rm_L_bestWord) [.ref a0, .int p1, .ref a9] (W_L_bestWord g a0 a1 a2 a3 a4 a5 a6 a7 a8 a9 a10 a11 a12 a13 a14 v0 v1 v2 v3 v4 v5) (fun v X1 => ∃ (r : Int32) (uv2 : Nat → Int32) (uv5 : Nat → Int64), v = some (.int r) ∧ X1 = W_L_bestWord g a0 a1 a2 a3 a4 a5 a6 a7 a8 a9 a10 a11 a12 a13 a14 v0 v1 uv2 v3 v4 uv5 ∧ post r uv2 uv5) := by
  refine cmW_of (cc := cL_bestWord) (nL := 4) (ret := (some .int)) (hh := [(0, 8, 11, 13)]) (by decide +kernel) rfl (Nat.le_of_ble_eq_true rfl) ?_
  intro x hf hl hg hn hi hr tb
  subst hl
  subst hg
  show ww x (W_L_bestWord (xg x) a0 a1 a2 a3 a4 a5 a6 a7 a8 a9 a10 a11 a12 a13 a14 v0 v1 v2 v3 v4 v5) [(0, .ref a0), (1, .int p1), (2, .ref a9)] 0 0 0 []
  unfold P_L_bestWord at h
  refine xw_aload_n hf (pc := 0) dL_bestWord_0 rfl 2 rfl ?_
  refine xw_iconst hf (pc := 1) dL_bestWord_1 (v := 0) (by decide) ?_
  refine xw_aload_n hf (pc := 2) dL_bestWord_2 rfl 0 rfl ?_
  refine xw_iload_n hf (pc := 3) dL_bestWord_3 rfl 1 rfl ?_
  refine xw_callVX hf (pc := 4) (nA := 1) (Xr := [(a9, .inl (gJ (xg x), 1, .inr (.inl v5)))]) (rest := [.int 0, .ref a9]) (T := TX8) (c_X8_bestWord (xl x) (xg x) hst a0 a1 a2 a3 a4 a5 a6 a7 a8 a10 a11 a12 a13 a14 v0 v1 v2 v3 v4 p1 h) gL_bestWord_X8_bestWord (by rfl) rfl rfl (by decide +kernel) ⟨⟨(Nat.le_of_ble_eq_true rfl), (Nat.le_of_ble_eq_true rfl)⟩, (Nat.le_of_ble_eq_true rfl), (Nat.le_of_ble_eq_true rfl)⟩ (Nat.le_of_ble_eq_true rfl) rfl rfl (sb_of [0, 1, 2, 3, 4, 5, 6, 7, 8, 9] rfl rfl) rfl dL_bestWord_4 (fun v X1 hp => ?_) (fun E4 X1 hp => ?_)
  · obtain ⟨r1, w2, rfl, rfl, h⟩ := hp
    refine xw_X (sb_of [0, 1, 2, 3, 4, 5, 6, 7, 8, 9] rfl rfl) (show ww x (W_L_bestWord (xg x) a0 a1 a2 a3 a4 a5 a6 a7 a8 a9 a10 a11 a12 a13 a14 v0 v1 w2 v3 v4 v5) [(0, .ref a0), (1, .int p1), (2, .ref a9)] 1 6 7 [.long r1, .int 0, .ref a9] from ?_)
    refine xw_last hf (pc := 7) dL_bestWord_7 9 rfl h.1 (W_L_bestWord (xg x) a0 a1 a2 a3 a4 a5 a6 a7 a8 a9 a10 a11 a12 a13 a14 v0 v1 w2 v3 v4 (vp_updL v5 (0 : Int32).toNatClampNeg r1)) rfl ?_
    have h := h.2
    refine xw_goto hf (pc := 8) dL_bestWord_8 (tgt := 14) rfl ?_
    refine xw_iconst hf (pc := 14) dL_bestWord_14 (v := 0) (by decide) ?_
    exact xw_iret hf (pc := 15) dL_bestWord_15 hr (Nat.le_of_ble_eq_true rfl) (Nat.le_of_ble_eq_true rfl) ⟨_, _, _, rfl, rfl, h⟩
  · obtain ⟨w3, rfl, h⟩ := hp
    refine xe_X (sb_of [0, 1, 2, 3, 4, 5, 6, 7, 8, 9] rfl rfl) (show wx x (W_L_bestWord (xg x) a0 a1 a2 a3 a4 a5 a6 a7 a8 a9 a10 a11 a12 a13 a14 v0 v1 w3 v3 v4 v5) [(0, .ref a0), (1, .int p1), (2, .ref a9)] 1 6 4 E4 [.int 0, .ref a9] from ?_)
    obtain ⟨rfl, h⟩ := h
    refine xw_catchA hf tb rfl (by decide) mw_L_bestWord_0 ((fav hf).1 _ (List.mem_of_getElem? (i := 0) rfl)) (fun q5 => ?_)
    refine xw_astore_n hf (pc := 11) dL_bestWord_11 rfl [(3, .ref q5), (0, .ref a0), (1, .int p1), (2, .ref a9)] hn (by decide) rfl ?_
    refine xw_iconst hf (pc := 12) dL_bestWord_12 (v := 1) (by decide) ?_
    exact xw_iret hf (pc := 13) dL_bestWord_13 hr (Nat.le_of_ble_eq_true rfl) (Nat.le_of_ble_eq_true rfl) ⟨_, _, _, rfl, rfl, h⟩
abbrev W_L_spend (g : Gx) (a0 a1 a2 a3 a4 a5 a6 a7 a8 a9 a10 a11 a12 a13 a14 a15 a16 a17 a18 : Nat) (v0 : Int32) (v1 : Nat → Int64) (v2 : Nat → Int32) (v3 : Nat → Int32) (v4 : Nat → Int32) (v5 : Int32) (v6 : Nat → Int32) (v7 : Nat → Int64) : va_W := [(a0, .inr (8, [.ref a1, .ref a4, .ref a9, .ref a14, .ref a15])), (a1, .inr (2, [.ref a2, .ref a16, .ref a17])), (a2, .inr (7, [.ref a3, .int v0])), (a3, .inl (gJ g, 60, .inr (.inl v1))), (a4, .inr (6, [.ref a5, .ref a7, .ref a8])), (a5, .inr (3, [.ref a6])), (a6, .inl (gI g, 32, .inl v2)), (a7, .inl (gI g, 32, .inl v3)), (a8, .inl (gI g, 32, .inl v4)), (a9, .inr (1, [.ref a13, .ref a18, .ref a10, .int v5])), (a10, .inr (3, [.ref a11])), (a11, .inl (gI g, 32, .inl v6)), (a12, .inl (gJ g, 1, .inr (.inl v7)))]
abbrev rm_L_spend (mc ms : Nat) : Room := { frames := 11, cells := mc, slots := ms, locals := 412 }
theorem mw_L_spend_0 : (Cond.classLink RL 13 "java/lang/IllegalArgumentException" : Cond) ∈ wsL_spend := (List.mem_cons_of_mem _ (List.mem_append_left _ (List.mem_append_left _ (List.mem_append_left _ (List.mem_append_left _ (List.mem_append_left _ (List.mem_append_left _ (List.mem_append_left _ (List.mem_append_left _ (List.mem_append_left _ (List.mem_append_left _ (List.mem_of_getElem? (l := wsL_spend_r1) (i := 0) rfl))))))))))))
set_option maxHeartbeats 4000000 in
set_option maxRecDepth 100000 in
theorem c_L_spend (l : Launch) (g : Gx) (hst : l.stackTraces = false) (a0 a1 a2 a3 a4 a5 a6 a7 a8 a9 a10 a11 a12 a13 a14 a15 a16 a17 a18 : Nat) (v0 : Int32) (v1 : Nat → Int64) (v2 : Nat → Int32) (v3 : Nat → Int32) (v4 : Nat → Int32) (v5 : Int32) (v6 : Nat → Int32) (v7 : Nat → Int64) (v8 : ZL) (p1 : Int32) {post : Int32 → (Nat → Int32) → Int32 → (Nat → Int32) → (Nat → Int64) → ZL → Prop} {mc ms : Nat} (h : P_L_spend post mc ms p1 v0 v1 v2 v3 v4 v5 v6 v7 v8) : cm l g yL_spend wsL_spend (rm_L_spend mc ms) [.ref a0, .int p1, .ref a12] (W_L_spend g a0 a1 a2 a3 a4 a5 a6 a7 a8 a9 a10 a11 a12 a13 a14 a15 a16 a17 a18 v0 v1 v2 v3 v4 v5 v6 v7 ++ ZP g a13 v8) (fun v X1 => ∃ (r : Int32) (uv2 : Nat → Int32) (uv5 : Int32) (uv6 : Nat → Int32) (uv7 : Nat → Int64) (uv8 : ZL), v = some (.int r) ∧ X1 = W_L_spend g a0 a1 a2 a3 a4 a5 a6 a7 a8 a9 a10 a11 a12 a13 a14 a15 a16 a17 a18 v0 v1 uv2 v3 v4 uv5 uv6 uv7 ++ ZP g a13 uv8 ∧ post r uv2 uv5 uv6 uv7 uv8) := by
  refine cmW_of (cc := cL_spend) (nL := 4) (ret := (some .int)) (hh := [(0, 9, 12, 13)]) (by decide +kernel) rfl (Nat.le_of_ble_eq_true rfl) ?_
  intro x hf hl hg hn hi hr tb
  subst hl
  subst hg
  show ww x (W_L_spend (xg x) a0 a1 a2 a3 a4 a5 a6 a7 a8 a9 a10 a11 a12 a13 a14 a15 a16 a17 a18 v0 v1 v2 v3 v4 v5 v6 v7 ++ ZP (xg x) a13 v8) [(0, .ref a0), (1, .int p1), (2, .ref a12)] 0 0 0 []
  unfold P_L_spend at h
  have hk : 0 + mc ≤ (rm_L_spend mc ms).cells ∧ 0 + ms ≤ (rm_L_spend mc ms).slots := ⟨Nat.le_of_eq (Nat.zero_add mc), Nat.le_of_eq (Nat.zero_add ms)⟩
  refine xw_aload_n hf (pc := 0) dL_spend_0 rfl 2 rfl ?_
  refine xw_iconst hf (pc := 1) dL_spend_1 (v := 0) (by decide) ?_
  refine xw_aload_n hf (pc := 2) dL_spend_2 rfl 0 rfl ?_
  refine xw_iload_n hf (pc := 3) dL_spend_3 rfl 1 rfl ?_
  obtain ⟨mc6, ms7, mc8, ms9, ⟨hb1, hb2⟩, h⟩ := h
  refine xw_callVX hf (pc := 4) (nA := 1) (Xr := [(a12, .inl (gJ (xg x), 1, .inr (.inl v7)))]) (rest := [.int 0, .ref a12]) (T := TX8) (c_X8_spend (xl x) (xg x) hst a0 a1 a2 a3 a4 a5 a6 a7 a8 a9 a10 a11 a13 a14 a15 a16 a17 a18 v0 v1 v2 v3 v4 v5 v6 v8 p1 h) gL_spend_X8_spend (by rfl) rfl rfl (by decide +kernel) ⟨⟨(Nat.le_of_ble_eq_true rfl), (Nat.le_of_ble_eq_true rfl)⟩, (Nat.le_trans (show 0 + mc6 ≤ 0 + mc by omega) hk.1), (Nat.le_trans (show 0 + ms7 ≤ 0 + ms by omega) hk.2)⟩ (Nat.le_of_ble_eq_true rfl) rfl rfl (sb_zc (sb_of [0, 1, 2, 3, 4, 5, 6, 7, 8, 9, 10, 11, 12] rfl rfl)) rfl dL_spend_4 (fun v X1 hp => ?_) (fun E14 X1 hp => ?_)
  · obtain ⟨r1, w2, w3, w4, w5, rfl, rfl, h⟩ := hp
    have hk : 0 + mc6 + mc8 ≤ (rm_L_spend mc ms).cells ∧ 0 + ms7 + ms9 ≤ (rm_L_spend mc ms).slots := ⟨Nat.le_trans (show 0 + mc6 + mc8 ≤ 0 + mc by omega) hk.1, Nat.le_trans (show 0 + ms7 + ms9 ≤ 0 + ms by omega) hk.2⟩
    refine xw_X (sb_cz (sb_of [0, 1, 2, 3, 4, 5, 6, 7, 8, 9, 10, 11, 12] rfl rfl)) (show ww x (W_L_spend (xg x) a0 a1 a2 a3 a4 a5 a6 a7 a8 a9 a10 a11 a12 a13 a14 a15 a16 a17 a18 v0 v1 w2 v3 v4 w3 w4 v7 ++ ZP (xg x) a13 w5) [(0, .ref a0), (1, .int p1), (2, .ref a12)] (0 + mc6) (0 + ms7) 7 [.int r1, .int 0, .ref a12] from ?_)
    refine xw_i2l hf (pc := 7) dL_spend_7 ?_
    refine xw_last hf (pc := 8) dL_spend_8 12 rfl h.1 (W_L_spend (xg x) a0 a1 a2 a3 a4 a5 a6 a7 a8 a9 a10 a11 a12 a13 a14 a15 a16 a17 a18 v0 v1 w2 v3 v4 w3 w4 (vp_updL v7 (0 : Int32).toNatClampNeg r1.toInt64) ++ ZP (xg x) a13 w5) rfl ?_
    have h := h.2
    refine xw_goto hf (pc := 9) dL_spend_9 (tgt := 15) rfl ?_
    refine xw_iconst hf (pc := 15) dL_spend_15 (v := 0) (by decide) ?_
    exact xw_iret hf (pc := 16) dL_spend_16 hr (Nat.le_trans (Nat.le_add_right _ _) hk.1) (Nat.le_trans (Nat.le_add_right _ _) hk.2) ⟨_, _, _, _, _, _, rfl, rfl, h⟩
  · have hk : 0 + mc6 + mc8 ≤ (rm_L_spend mc ms).cells ∧ 0 + ms7 + ms9 ≤ (rm_L_spend mc ms).slots := ⟨Nat.le_trans (show 0 + mc6 + mc8 ≤ 0 + mc by omega) hk.1, Nat.le_trans (show 0 + ms7 + ms9 ≤ 0 + ms by omega) hk.2⟩
    obtain ⟨w10, w11, w12, w13, rfl, h⟩ := hp
    refine xe_X (sb_cz (sb_of [0, 1, 2, 3, 4, 5, 6, 7, 8, 9, 10, 11, 12] rfl rfl)) (show wx x (W_L_spend (xg x) a0 a1 a2 a3 a4 a5 a6 a7 a8 a9 a10 a11 a12 a13 a14 a15 a16 a17 a18 v0 v1 w10 v3 v4 w11 w12 v7 ++ ZP (xg x) a13 w13) [(0, .ref a0), (1, .int p1), (2, .ref a12)] (0 + mc6) (0 + ms7) 4 E14 [.int 0, .ref a12] from ?_)
    obtain ⟨rfl, h⟩ := h
    refine xw_catchA hf tb rfl (by decide) mw_L_spend_0 ((fav hf).1 _ (List.mem_of_getElem? (i := 0) rfl)) (fun q15 => ?_)
    refine xw_astore_n hf (pc := 12) dL_spend_12 rfl [(3, .ref q15), (0, .ref a0), (1, .int p1), (2, .ref a12)] hn (by decide) rfl ?_
    refine xw_iconst hf (pc := 13) dL_spend_13 (v := 1) (by decide) ?_
    exact xw_iret hf (pc := 14) dL_spend_14 hr (Nat.le_trans (Nat.le_add_right _ _) hk.1) (Nat.le_trans (Nat.le_add_right _ _) hk.2) ⟨_, _, _, _, _, _, rfl, rfl, h⟩
abbrev W_L_planLength (g : Gx) (a0 a1 a2 a3 a4 a5 a6 a7 a8 a9 a10 a11 a12 a13 a14 a15 a16 a17 a18 : Nat) (v0 : Int32) (v1 : Nat → Int64) (v2 : Int32) (v3 : Nat → Int64) (v4 : Nat → Int32) (v5 : Int32) (v6 : Int32) (v7 : Nat → Int32) (v8 : Int32) (v9 : Nat → Int64) (v10 : Int32) (v11 : Nat → Int64) (v12 : Nat → Int64) : va_W := [(a0, .inr (8, [.ref a1, .ref a16, .ref a17, .ref a8, .ref a18])), (a1, .inr (2, [.ref a2, .ref a4, .ref a6])), (a2, .inr (7, [.ref a3, .int v0])), (a3, .inl (gJ g, 60, .inr (.inl v1))), (a4, .inr (7, [.ref a5, .int v2])), (a5, .inl (gJ g, 60, .inr (.inl v3))), (a6, .inr (3, [.ref a7])), (a7, .inl (gI g, 32, .inl v4)), (a8, .inr (4, [.ref a9, .ref a11, .ref a13, .int v5, .int v6])), (a9, .inr (3, [.ref a10])), (a10, .inl (gI g, 32, .inl v7)), (a11, .inr (7, [.ref a12, .int v8])), (a12, .inl (gJ g, 60, .inr (.inl v9))), (a13, .inr (7, [.ref a14, .int v10])), (a14, .inl (gJ g, 60, .inr (.inl v11))), (a15, .inl (gJ g, 1, .inr (.inl v12)))]
abbrev rm_L_planLength : Room := { frames := 15, cells := 2, slots := 12, locals := 798 }
theorem mw_L_planLength_0 : (Cond.classLink RL 13 "java/lang/IllegalArgumentException" : Cond) ∈ wsL_planLength := (List.mem_cons_of_mem _ (List.mem_append_left _ (List.mem_append_left _ (List.mem_append_left _ (List.mem_append_left _ (List.mem_append_left _ (List.mem_append_left _ (List.mem_append_left _ (List.mem_of_getElem? (l := wsL_planLength_r1) (i := 0) rfl)))))))))
set_option maxHeartbeats 4000000 in
set_option maxRecDepth 100000 in
theorem c_L_planLength (l : Launch) (g : Gx) (hst : l.stackTraces = false) (a0 a1 a2 a3 a4 a5 a6 a7 a8 a9 a10 a11 a12 a13 a14 a15 a16 a17 a18 : Nat) (v0 : Int32) (v1 : Nat → Int64) (v2 : Int32) (v3 : Nat → Int64) (v4 : Nat → Int32) (v5 : Int32) (v6 : Int32) (v7 : Nat → Int32) (v8 : Int32) (v9 : Nat → Int64) (v10 : Int32) (v11 : Nat → Int64) (v12 : Nat → Int64) (p1 : Int64) (p3 : Int32) {post : Int32 → Int32 → (Nat → Int64) → (Nat → Int32) → Int32 → Int32 → (Nat → Int32) → Int32 → (Nat → Int64) → Int32 → (Nat → Int64) → (Nat → Int64) → Prop} (h : P_L_planLength post p1 p3 v0 v1 v2 v3 v4 v5 v6 v7 v8 v9 v10 v11 v12) : cm l g yL_planLength wsL_planLength (rm_L_planLength) [.ref a0, .long p1, .int p3, .ref a15] (W_L_planLength g a0 a1 a2 a3 a4 a5 a6 a7 a8 a9 a10 a11 a12 a13 a14 a15 a16 a17 a18 v0 v1 v2 v3 v4 v5 v6 v7 v8 v9 v10 v11 v12) (fun v X1 => ∃ (r : Int32) (uv2 : Int32) (uv3 : Nat → Int64) (uv4 : Nat → Int32) (uv5 : Int32) (uv6 : Int32) (uv7 : Nat → Int32) (uv8 : Int32) (uv9 : Nat → Int64) (uv10 : Int32) (uv11 : Nat → Int64) (uv12 : Nat → Int64), v = some (.int r) ∧ X1 = W_L_planLength g a0 a1 a2 a3 a4 a5 a6 a7 a8 a9 a10 a11 a12 a13 a14 a15 a16 a17 a18 v0 v1 uv2 uv3 uv4 uv5 uv6 uv7 uv8 uv9 uv10 uv11 uv12 ∧ post r uv2 uv3 uv4 uv5 uv6 uv7 uv8 uv9 uv10 uv11 uv12) := by
  refine cmW_of (cc := cL_planLength) (nL := 6) (ret := (some .int)) (hh := [(0, 11, 14, 13)]) (by decide +kernel) rfl (Nat.le_of_ble_eq_true rfl) ?_
  intro x hf hl hg hn hi hr tb
  subst hl
  subst hg
  show ww x (W_L_planLength (xg x) a0 a1 a2 a3 a4 a5 a6 a7 a8 a9 a10 a11 a12 a13 a14 a15 a16 a17 a18 v0 v1 v2 v3 v4 v5 v6 v7 v8 v9 v10 v11 v12) [(0, .ref a0), (1, .long p1), (3, .int p3), (4, .ref a15)] 0 0 0 []
  unfold P_L_planLength at h
  refine xw_aload hf (pc := 0) dL_planLength_0 3 rfl ?_
  refine xw_iconst hf (pc := 2) dL_planLength_2 (v := 0) (by decide) ?_
  refine xw_aload_n hf (pc := 3) dL_planLength_3 rfl 0 rfl ?_
  refine xw_lload_n hf (pc := 4) dL_planLength_4 rfl 1 rfl ?_
  refine xw_iload_n hf (pc := 5) dL_planLength_5 rfl 2 rfl ?_
  refine xw_callVX hf (pc := 6) (nA := 2) (Xr := [(a15, .inl (gJ (xg x), 1, .inr (.inl v12)))]) (rest := [.int 0, .ref a15]) (T := TX8) (c_X8_planLength (xl x) (xg x) hst a0 a1 a2 a3 a4 a5 a6 a7 a8 a9 a10 a11 a12 a13 a14 a16 a17 a18 v0 v1 v2 v3 v4 v5 v6 v7 v8 v9 v10 v11 p1 p3 h) gL_planLength_X8_planLength (by rfl) rfl rfl (by decide +kernel) ⟨⟨(Nat.le_of_ble_eq_true rfl), (Nat.le_of_ble_eq_true rfl)⟩, (Nat.le_of_ble_eq_true rfl), (Nat.le_of_ble_eq_true rfl)⟩ (Nat.le_of_ble_eq_true rfl) rfl rfl (sb_of [0, 1, 2, 3, 4, 5, 6, 7, 8, 9, 10, 11, 12, 13, 14, 15] rfl rfl) rfl dL_planLength_6 (fun v X1 hp => ?_) (fun E22 X1 hp => ?_)
  · obtain ⟨r1, w2, w3, w4, w5, w6, w7, w8, w9, w10, w11, rfl, rfl, h⟩ := hp
    refine xw_X (sb_of [0, 1, 2, 3, 4, 5, 6, 7, 8, 9, 10, 11, 12, 13, 14, 15] rfl rfl) (show ww x (W_L_planLength (xg x) a0 a1 a2 a3 a4 a5 a6 a7 a8 a9 a10 a11 a12 a13 a14 a15 a16 a17 a18 v0 v1 w2 w3 w4 w5 w6 w7 w8 w9 w10 w11 v12) [(0, .ref a0), (1, .long p1), (3, .int p3), (4, .ref a15)] 2 12 9 [.int r1, .int 0, .ref a15] from ?_)
    refine xw_i2l hf (pc := 9) dL_planLength_9 ?_
    refine xw_last hf (pc := 10) dL_planLength_10 15 rfl h.1 (W_L_planLength (xg x) a0 a1 a2 a3 a4 a5 a6 a7 a8 a9 a10 a11 a12 a13 a14 a15 a16 a17 a18 v0 v1 w2 w3 w4 w5 w6 w7 w8 w9 w10 w11 (vp_updL v12 (0 : Int32).toNatClampNeg r1.toInt64)) rfl ?_
    have h := h.2
    refine xw_goto hf (pc := 11) dL_planLength_11 (tgt := 18) rfl ?_
    refine xw_iconst hf (pc := 18) dL_planLength_18 (v := 0) (by decide) ?_
    exact xw_iret hf (pc := 19) dL_planLength_19 hr (Nat.le_of_ble_eq_true rfl) (Nat.le_of_ble_eq_true rfl) ⟨_, _, _, _, _, _, _, _, _, _, _, _, rfl, rfl, h⟩
  · obtain ⟨w12, w13, w14, w15, w16, w17, w18, w19, w20, w21, rfl, h⟩ := hp
    refine xe_X (sb_of [0, 1, 2, 3, 4, 5, 6, 7, 8, 9, 10, 11, 12, 13, 14, 15] rfl rfl) (show wx x (W_L_planLength (xg x) a0 a1 a2 a3 a4 a5 a6 a7 a8 a9 a10 a11 a12 a13 a14 a15 a16 a17 a18 v0 v1 w12 w13 w14 w15 w16 w17 w18 w19 w20 w21 v12) [(0, .ref a0), (1, .long p1), (3, .int p3), (4, .ref a15)] 2 12 6 E22 [.int 0, .ref a15] from ?_)
    obtain ⟨rfl, h⟩ := h
    refine xw_catchA hf tb rfl (by decide) mw_L_planLength_0 ((fav hf).1 _ (List.mem_of_getElem? (i := 0) rfl)) (fun q23 => ?_)
    refine xw_astore hf (pc := 14) dL_planLength_14 [(5, .ref q23), (0, .ref a0), (1, .long p1), (3, .int p3), (4, .ref a15)] hn (by decide) rfl ?_
    refine xw_iconst hf (pc := 16) dL_planLength_16 (v := 1) (by decide) ?_
    exact xw_iret hf (pc := 17) dL_planLength_17 hr (Nat.le_of_ble_eq_true rfl) (Nat.le_of_ble_eq_true rfl) ⟨_, _, _, _, _, _, _, _, _, _, _, _, rfl, rfl, h⟩
abbrev W_L_planWord (g : Gx) (a0 a1 a2 a3 a4 a5 a6 a7 a8 a9 a10 a11 a12 a13 a14 a15 a16 a17 a18 : Nat) (v0 : Int32) (v1 : Nat → Int64) (v2 : Int32) (v3 : Nat → Int64) (v4 : Nat → Int32) (v5 : Int32) (v6 : Int32) (v7 : Nat → Int32) (v8 : Int32) (v9 : Nat → Int64) (v10 : Int32) (v11 : Nat → Int64) (v12 : Nat → Int64) : va_W := [(a0, .inr (8, [.ref a1, .ref a16, .ref a17, .ref a8, .ref a18])), (a1, .inr (2, [.ref a2, .ref a4, .ref a6])), (a2, .inr (7, [.ref a3, .int v0])), (a3, .inl (gJ g, 60, .inr (.inl v1))), (a4, .inr (7, [.ref a5, .int v2])), (a5, .inl (gJ g, 60, .inr (.inl v3))), (a6, .inr (3, [.ref a7])), (a7, .inl (gI g, 32, .inl v4)), (a8, .inr (4, [.ref a9, .ref a11, .ref a13, .int v5, .int v6])), (a9, .inr (3, [.ref a10])), (a10, .inl (gI g, 32, .inl v7)), (a11, .inr (7, [.ref a12, .int v8])), (a12, .inl (gJ g, 60, .inr (.inl v9))), (a13, .inr (7, [.ref a14, .int v10])), (a14, .inl (gJ g, 60, .inr (.inl v11))), (a15, .inl (gJ g, 1, .inr (.inl v12)))]
abbrev rm_L_planWord : Room := { frames := 15, cells := 3, slots := 18, locals := 799 }
theorem mw_L_planWord_0 : (Cond.classLink RL 13 "java/lang/IllegalArgumentException" : Cond) ∈ wsL_planWord := (List.mem_cons_of_mem _ (List.mem_append_left _ (List.mem_append_left _ (List.mem_append_left _ (List.mem_append_left _ (List.mem_append_left _ (List.mem_append_left _ (List.mem_append_left _ (List.mem_append_left _ (List.mem_of_getElem? (l := wsL_planWord_r1) (i := 0) rfl))))))))))
theorem mw_L_planWord_1 : (Cond.classLink RL 26 "java/lang/IndexOutOfBoundsException" : Cond) ∈ wsL_planWord := (List.mem_cons_of_mem _ (List.mem_append_left _ (List.mem_append_left _ (List.mem_append_left _ (List.mem_append_left _ (List.mem_append_left _ (List.mem_append_left _ (List.mem_append_left _ (List.mem_append_left _ (List.mem_of_getElem? (l := wsL_planWord_r1) (i := 1) rfl))))))))))
set_option maxHeartbeats 4000000 in
set_option maxRecDepth 100000 in
theorem c_L_planWord (l : Launch) (g : Gx) (hst : l.stackTraces = false) (a0 a1 a2 a3 a4 a5 a6 a7 a8 a9 a10 a11 a12 a13 a14 a15 a16 a17 a18 : Nat) (v0 : Int32) (v1 : Nat → Int64) (v2 : Int32) (v3 : Nat → Int64) (v4 : Nat → Int32) (v5 : Int32) (v6 : Int32) (v7 : Nat → Int32) (v8 : Int32) (v9 : Nat → Int64) (v10 : Int32) (v11 : Nat → Int64) (v12 : Nat → Int64) (p1 : Int64) (p3 : Int32) (p4 : Int32) {post : Int32 → Int32 → (Nat → Int64) → (Nat → Int32) → Int32 → Int32 → (Nat → Int32) → Int32 → (Nat → Int64) → Int32 → (Nat → Int64) → (Nat → Int64) → Prop} (h : P_L_planWord post p1 p3 p4 v0 v1 v2 v3 v4 v5 v6 v7 v8 v9 v10 v11 v12) : cm l g yL_planWord wsL_planWord (rm_L_planWord) [.ref a0, .long p1, .int p3, .int p4, .ref a15] (W_L_planWord g a0 a1 a2 a3 a4 a5 a6 a7 a8 a9 a10 a11 a12 a13 a14 a15 a16 a17 a18 v0 v1 v2 v3 v4 v5 v6 v7 v8 v9 v10 v11 v12) (fun v X1 => ∃ (r : Int32) (uv2 : Int32) (uv3 : Nat → Int64) (uv4 : Nat → Int32) (uv5 : Int32) (uv6 : Int32) (uv7 : Nat → Int32) (uv8 : Int32) (uv9 : Nat → Int64) (uv10 : Int32) (uv11 : Nat → Int64) (uv12 : Nat → Int64), v = some (.int r) ∧ X1 = W_L_planWord g a0 a1 a2 a3 a4 a5 a6 a7 a8 a9 a10 a11 a12 a13 a14 a15 a16 a17 a18 v0 v1 uv2 uv3 uv4 uv5 uv6 uv7 uv8 uv9 uv10 uv11 uv12 ∧ post r uv2 uv3 uv4 uv5 uv6 uv7 uv8 uv9 uv10 uv11 uv12) := by
  refine cmW_of (cc := cL_planWord) (nL := 7) (ret := (some .int)) (hh := [(0, 12, 15, 13), (0, 12, 19, 26)]) (by decide +kernel) rfl (Nat.le_of_ble_eq_true rfl) ?_
  intro x hf hl hg hn hi hr tb
  subst hl
  subst hg
  show ww x (W_L_planWord (xg x) a0 a1 a2 a3 a4 a5 a6 a7 a8 a9 a10 a11 a12 a13 a14 a15 a16 a17 a18 v0 v1 v2 v3 v4 v5 v6 v7 v8 v9 v10 v11 v12) [(0, .ref a0), (1, .long p1), (3, .int p3), (4, .int p4), (5, .ref a15)] 0 0 0 []
  unfold P_L_planWord at h
  refine xw_aload hf (pc := 0) dL_planWord_0 4 rfl ?_
  refine xw_iconst hf (pc := 2) dL_planWord_2 (v := 0) (by decide) ?_
  refine xw_aload_n hf (pc := 3) dL_planWord_3 rfl 0 rfl ?_
  refine xw_lload_n hf (pc := 4) dL_planWord_4 rfl 1 rfl ?_
  refine xw_iload_n hf (pc := 5) dL_planWord_5 rfl 2 rfl ?_
  refine xw_iload hf (pc := 6) dL_planWord_6 3 rfl ?_
  refine xw_callVX hf (pc := 8) (nA := 3) (Xr := [(a15, .inl (gJ (xg x), 1, .inr (.inl v12)))]) (rest := [.int 0, .ref a15]) (T := TX8) (c_X8_planWord (xl x) (xg x) hst a0 a1 a2 a3 a4 a5 a6 a7 a8 a9 a10 a11 a12 a13 a14 a16 a17 a18 v0 v1 v2 v3 v4 v5 v6 v7 v8 v9 v10 v11 p1 p3 p4 h) gL_planWord_X8_planWord (by rfl) rfl rfl (by decide +kernel) ⟨⟨(Nat.le_of_ble_eq_true rfl), (Nat.le_of_ble_eq_true rfl)⟩, (Nat.le_of_ble_eq_true rfl), (Nat.le_of_ble_eq_true rfl)⟩ (Nat.le_of_ble_eq_true rfl) rfl rfl (sb_of [0, 1, 2, 3, 4, 5, 6, 7, 8, 9, 10, 11, 12, 13, 14, 15] rfl rfl) rfl dL_planWord_8 (fun v X1 hp => ?_) (fun E22 X1 hp => ?_)
  · obtain ⟨r1, w2, w3, w4, w5, w6, w7, w8, w9, w10, w11, rfl, rfl, h⟩ := hp
    refine xw_X (sb_of [0, 1, 2, 3, 4, 5, 6, 7, 8, 9, 10, 11, 12, 13, 14, 15] rfl rfl) (show ww x (W_L_planWord (xg x) a0 a1 a2 a3 a4 a5 a6 a7 a8 a9 a10 a11 a12 a13 a14 a15 a16 a17 a18 v0 v1 w2 w3 w4 w5 w6 w7 w8 w9 w10 w11 v12) [(0, .ref a0), (1, .long p1), (3, .int p3), (4, .int p4), (5, .ref a15)] 3 18 11 [.long r1, .int 0, .ref a15] from ?_)
    refine xw_last hf (pc := 11) dL_planWord_11 15 rfl h.1 (W_L_planWord (xg x) a0 a1 a2 a3 a4 a5 a6 a7 a8 a9 a10 a11 a12 a13 a14 a15 a16 a17 a18 v0 v1 w2 w3 w4 w5 w6 w7 w8 w9 w10 w11 (vp_updL v12 (0 : Int32).toNatClampNeg r1)) rfl ?_
    have h := h.2
    refine xw_goto hf (pc := 12) dL_planWord_12 (tgt := 23) rfl ?_
    refine xw_iconst hf (pc := 23) dL_planWord_23 (v := 0) (by decide) ?_
    exact xw_iret hf (pc := 24) dL_planWord_24 hr (Nat.le_of_ble_eq_true rfl) (Nat.le_of_ble_eq_true rfl) ⟨_, _, _, _, _, _, _, _, _, _, _, _, rfl, rfl, h⟩
  · obtain ⟨w12, w13, w14, w15, w16, w17, w18, w19, w20, w21, rfl, h⟩ := hp
    refine xe_X (sb_of [0, 1, 2, 3, 4, 5, 6, 7, 8, 9, 10, 11, 12, 13, 14, 15] rfl rfl) (show wx x (W_L_planWord (xg x) a0 a1 a2 a3 a4 a5 a6 a7 a8 a9 a10 a11 a12 a13 a14 a15 a16 a17 a18 v0 v1 w12 w13 w14 w15 w16 w17 w18 w19 w20 w21 v12) [(0, .ref a0), (1, .long p1), (3, .int p3), (4, .int p4), (5, .ref a15)] 3 18 8 E22 [.int 0, .ref a15] from ?_)
    rcases h with ⟨rfl, h⟩ | ⟨rfl, h⟩
    · refine xw_catchA hf tb rfl (by decide) mw_L_planWord_0 ((fav hf).1 _ (List.mem_of_getElem? (i := 0) rfl)) (fun q23 => ?_)
      refine xw_astore hf (pc := 15) dL_planWord_15 [(6, .ref q23), (0, .ref a0), (1, .long p1), (3, .int p3), (4, .int p4), (5, .ref a15)] hn (by decide) rfl ?_
      refine xw_iconst hf (pc := 17) dL_planWord_17 (v := 1) (by decide) ?_
      exact xw_iret hf (pc := 18) dL_planWord_18 hr (Nat.le_of_ble_eq_true rfl) (Nat.le_of_ble_eq_true rfl) ⟨_, _, _, _, _, _, _, _, _, _, _, _, rfl, rfl, h⟩
    · refine xw_catchB hf tb (by decide) mw_L_planWord_0 ((fav hf).2.2.2.2.2.1 _ (List.mem_of_getElem? (i := 2) rfl)) rfl (by decide) mw_L_planWord_1 ((fav hf).1 _ (List.mem_of_getElem? (i := 3) rfl)) (fun q24 => ?_)
      refine xw_astore hf (pc := 19) dL_planWord_19 [(6, .ref q24), (0, .ref a0), (1, .long p1), (3, .int p3), (4, .int p4), (5, .ref a15)] hn (by decide) rfl ?_
      refine xw_iconst hf (pc := 21) dL_planWord_21 (v := 2) (by decide) ?_
      exact xw_iret hf (pc := 22) dL_planWord_22 hr (Nat.le_of_ble_eq_true rfl) (Nat.le_of_ble_eq_true rfl) ⟨_, _, _, _, _, _, _, _, _, _, _, _, rfl, rfl, h⟩
abbrev W_L_leftoverCount (g : Gx) (a0 a1 a2 a3 a4 a5 a6 a7 a8 a9 a10 a11 a12 a13 a14 a15 a16 a17 a18 : Nat) (v0 : Int32) (v1 : Nat → Int64) (v2 : Int32) (v3 : Nat → Int64) (v4 : Nat → Int32) (v5 : Int32) (v6 : Int32) (v7 : Nat → Int32) (v8 : Int32) (v9 : Nat → Int64) (v10 : Int32) (v11 : Nat → Int64) (v12 : Nat → Int64) : va_W := [(a0, .inr (8, [.ref a1, .ref a16, .ref a17, .ref a8, .ref a18])), (a1, .inr (2, [.ref a2, .ref a4, .ref a6])), (a2, .inr (7, [.ref a3, .int v0])), (a3, .inl (gJ g, 60, .inr (.inl v1))), (a4, .inr (7, [.ref a5, .int v2])), (a5, .inl (gJ g, 60, .inr (.inl v3))), (a6, .inr (3, [.ref a7])), (a7, .inl (gI g, 32, .inl v4)), (a8, .inr (4, [.ref a9, .ref a11, .ref a13, .int v5, .int v6])), (a9, .inr (3, [.ref a10])), (a10, .inl (gI g, 32, .inl v7)), (a11, .inr (7, [.ref a12, .int v8])), (a12, .inl (gJ g, 60, .inr (.inl v9))), (a13, .inr (7, [.ref a14, .int v10])), (a14, .inl (gJ g, 60, .inr (.inl v11))), (a15, .inl (gJ g, 1, .inr (.inl v12)))]
abbrev rm_L_leftoverCount : Room := { frames := 15, cells := 2, slots := 12, locals := 798 }
theorem mw_L_leftoverCount_0 : (Cond.classLink RL 13 "java/lang/IllegalArgumentException" : Cond) ∈ wsL_leftoverCount := (List.mem_cons_of_mem _ (List.mem_append_left _ (List.mem_append_left _ (List.mem_append_left _ (List.mem_append_left _ (List.mem_append_left _ (List.mem_append_left _ (List.mem_append_left _ (List.mem_of_getElem? (l := wsL_leftoverCount_r1) (i := 0) rfl)))))))))
set_option maxHeartbeats 4000000 in
set_option maxRecDepth 100000 in
theorem c_L_leftoverCount (l : Launch) (g : Gx) (hst : l.stackTraces = false) (a0 a1 a2 a3 a4 a5 a6 a7 a8 a9 a10 a11 a12 a13 a14 a15 a16 a17 a18 : Nat) (v0 : Int32) (v1 : Nat → Int64) (v2 : Int32) (v3 : Nat → Int64) (v4 : Nat → Int32) (v5 : Int32) (v6 : Int32) (v7 : Nat → Int32) (v8 : Int32) (v9 : Nat → Int64) (v10 : Int32) (v11 : Nat → Int64) (v12 : Nat → Int64) (p1 : Int64) (p3 : Int32) {post : Int32 → Int32 → (Nat → Int64) → (Nat → Int32) → Int32 → Int32 → (Nat → Int32) → Int32 → (Nat → Int64) → Int32 → (Nat → Int64) → (Nat → Int64) → Prop} (h : P_L_leftoverCount post p1 p3 v0 v1 v2 v3 v4 v5 v6 v7 v8 v9 v10 v11 v12) : cm l g yL_leftoverCount wsL_leftoverCount (rm_L_leftoverCount) [.ref a0, .long p1, .int p3, .ref a15] (W_L_leftoverCount g a0 a1 a2 a3 a4 a5 a6 a7 a8 a9 a10 a11 a12 a13 a14 a15 a16 a17 a18 v0 v1 v2 v3 v4 v5 v6 v7 v8 v9 v10 v11 v12) (fun v X1 => ∃ (r : Int32) (uv2 : Int32) (uv3 : Nat → Int64) (uv4 : Nat → Int32) (uv5 : Int32) (uv6 : Int32) (uv7 : Nat → Int32) (uv8 : Int32) (uv9 : Nat → Int64) (uv10 : Int32) (uv11 : Nat → Int64) (uv12 : Nat → Int64), v = some (.int r) ∧ X1 = W_L_leftoverCount g a0 a1 a2 a3 a4 a5 a6 a7 a8 a9 a10 a11 a12 a13 a14 a15 a16 a17 a18 v0 v1 uv2 uv3 uv4 uv5 uv6 uv7 uv8 uv9 uv10 uv11 uv12 ∧ post r uv2 uv3 uv4 uv5 uv6 uv7 uv8 uv9 uv10 uv11 uv12) := by
  refine cmW_of (cc := cL_leftoverCount) (nL := 6) (ret := (some .int)) (hh := [(0, 11, 14, 13)]) (by decide +kernel) rfl (Nat.le_of_ble_eq_true rfl) ?_
  intro x hf hl hg hn hi hr tb
  subst hl
  subst hg
  show ww x (W_L_leftoverCount (xg x) a0 a1 a2 a3 a4 a5 a6 a7 a8 a9 a10 a11 a12 a13 a14 a15 a16 a17 a18 v0 v1 v2 v3 v4 v5 v6 v7 v8 v9 v10 v11 v12) [(0, .ref a0), (1, .long p1), (3, .int p3), (4, .ref a15)] 0 0 0 []
  unfold P_L_leftoverCount at h
  refine xw_aload hf (pc := 0) dL_leftoverCount_0 3 rfl ?_
  refine xw_iconst hf (pc := 2) dL_leftoverCount_2 (v := 0) (by decide) ?_
  refine xw_aload_n hf (pc := 3) dL_leftoverCount_3 rfl 0 rfl ?_
  refine xw_lload_n hf (pc := 4) dL_leftoverCount_4 rfl 1 rfl ?_
  refine xw_iload_n hf (pc := 5) dL_leftoverCount_5 rfl 2 rfl ?_
  refine xw_callVX hf (pc := 6) (nA := 2) (Xr := [(a15, .inl (gJ (xg x), 1, .inr (.inl v12)))]) (rest := [.int 0, .ref a15]) (T := TX8) (c_X8_leftoverCount (xl x) (xg x) hst a0 a1 a2 a3 a4 a5 a6 a7 a8 a9 a10 a11 a12 a13 a14 a16 a17 a18 v0 v1 v2 v3 v4 v5 v6 v7 v8 v9 v10 v11 p1 p3 h) gL_leftoverCount_X8_leftoverCount (by rfl) rfl rfl (by decide +kernel) ⟨⟨(Nat.le_of_ble_eq_true rfl), (Nat.le_of_ble_eq_true rfl)⟩, (Nat.le_of_ble_eq_true rfl), (Nat.le_of_ble_eq_true rfl)⟩ (Nat.le_of_ble_eq_true rfl) rfl rfl (sb_of [0, 1, 2, 3, 4, 5, 6, 7, 8, 9, 10, 11, 12, 13, 14, 15] rfl rfl) rfl dL_leftoverCount_6 (fun v X1 hp => ?_) (fun E22 X1 hp => ?_)
  · obtain ⟨r1, w2, w3, w4, w5, w6, w7, w8, w9, w10, w11, rfl, rfl, h⟩ := hp
    refine xw_X (sb_of [0, 1, 2, 3, 4, 5, 6, 7, 8, 9, 10, 11, 12, 13, 14, 15] rfl rfl) (show ww x (W_L_leftoverCount (xg x) a0 a1 a2 a3 a4 a5 a6 a7 a8 a9 a10 a11 a12 a13 a14 a15 a16 a17 a18 v0 v1 w2 w3 w4 w5 w6 w7 w8 w9 w10 w11 v12) [(0, .ref a0), (1, .long p1), (3, .int p3), (4, .ref a15)] 2 12 9 [.int r1, .int 0, .ref a15] from ?_)
    refine xw_i2l hf (pc := 9) dL_leftoverCount_9 ?_
    refine xw_last hf (pc := 10) dL_leftoverCount_10 15 rfl h.1 (W_L_leftoverCount (xg x) a0 a1 a2 a3 a4 a5 a6 a7 a8 a9 a10 a11 a12 a13 a14 a15 a16 a17 a18 v0 v1 w2 w3 w4 w5 w6 w7 w8 w9 w10 w11 (vp_updL v12 (0 : Int32).toNatClampNeg r1.toInt64)) rfl ?_
    have h := h.2
    refine xw_goto hf (pc := 11) dL_leftoverCount_11 (tgt := 18) rfl ?_
    refine xw_iconst hf (pc := 18) dL_leftoverCount_18 (v := 0) (by decide) ?_
    exact xw_iret hf (pc := 19) dL_leftoverCount_19 hr (Nat.le_of_ble_eq_true rfl) (Nat.le_of_ble_eq_true rfl) ⟨_, _, _, _, _, _, _, _, _, _, _, _, rfl, rfl, h⟩
  · obtain ⟨w12, w13, w14, w15, w16, w17, w18, w19, w20, w21, rfl, h⟩ := hp
    refine xe_X (sb_of [0, 1, 2, 3, 4, 5, 6, 7, 8, 9, 10, 11, 12, 13, 14, 15] rfl rfl) (show wx x (W_L_leftoverCount (xg x) a0 a1 a2 a3 a4 a5 a6 a7 a8 a9 a10 a11 a12 a13 a14 a15 a16 a17 a18 v0 v1 w12 w13 w14 w15 w16 w17 w18 w19 w20 w21 v12) [(0, .ref a0), (1, .long p1), (3, .int p3), (4, .ref a15)] 2 12 6 E22 [.int 0, .ref a15] from ?_)
    obtain ⟨rfl, h⟩ := h
    refine xw_catchA hf tb rfl (by decide) mw_L_leftoverCount_0 ((fav hf).1 _ (List.mem_of_getElem? (i := 0) rfl)) (fun q23 => ?_)
    refine xw_astore hf (pc := 14) dL_leftoverCount_14 [(5, .ref q23), (0, .ref a0), (1, .long p1), (3, .int p3), (4, .ref a15)] hn (by decide) rfl ?_
    refine xw_iconst hf (pc := 16) dL_leftoverCount_16 (v := 1) (by decide) ?_
    exact xw_iret hf (pc := 17) dL_leftoverCount_17 hr (Nat.le_of_ble_eq_true rfl) (Nat.le_of_ble_eq_true rfl) ⟨_, _, _, _, _, _, _, _, _, _, _, _, rfl, rfl, h⟩
abbrev W_L_cutToOrder (g : Gx) (a0 a1 a2 a3 a4 a5 a6 a7 a8 a9 a10 a11 a12 a13 a14 a15 a16 a17 a18 a19 a20 a21 a22 a23 a24 a25 a26 a27 : Nat) (v0 : Int32) (v1 : Nat → Int64) (v2 : Int32) (v3 : Nat → Int64) (v4 : Nat → Int32) (v5 : Nat → Int32) (v6 : Int32) (v7 : Nat → Int32) (v8 : Nat → Int32) (v9 : Int32) (v10 : Int32) (v11 : Nat → Int32) (v12 : Int32) (v13 : Nat → Int64) (v14 : Int32) (v15 : Nat → Int64) (v16 : Nat → Int64) : va_W := [(a0, .inr (8, [.ref a1, .ref a8, .ref a11, .ref a16, .ref a25])), (a1, .inr (2, [.ref a2, .ref a4, .ref a6])), (a2, .inr (7, [.ref a3, .int v0])), (a3, .inl (gJ g, 60, .inr (.inl v1))), (a4, .inr (7, [.ref a5, .int v2])), (a5, .inl (gJ g, 60, .inr (.inl v3))), (a6, .inr (3, [.ref a7])), (a7, .inl (gI g, 32, .inl v4)), (a8, .inr (6, [.ref a9, .ref a26, .ref a27])), (a9, .inr (3, [.ref a10])), (a10, .inl (gI g, 32, .inl v5)), (a11, .inr (1, [.ref a24, .ref a12, .ref a14, .int v6])), (a12, .inr (3, [.ref a13])), (a13, .inl (gI g, 32, .inl v7)), (a14, .inr (3, [.ref a15])), (a15, .inl (gI g, 32, .inl v8)), (a16, .inr (4, [.ref a17, .ref a19, .ref a21, .int v9, .int v10])), (a17, .inr (3, [.ref a18])), (a18, .inl (gI g, 32, .inl v11)), (a19, .inr (7, [.ref a20, .int v12])), (a20, .inl (gJ g, 60, .inr (.inl v13))), (a21, .inr (7, [.ref a22, .int v14])), (a22, .inl (gJ g, 60, .inr (.inl v15))), (a23, .inl (gJ g, 1, .inr (.inl v16)))]
abbrev rm_L_cutToOrder (mc ms : Nat) : Room := { frames := 15, cells := mc, slots := ms, locals := 801 }
theorem mw_L_cutToOrder_0 : (Cond.classLink RL 13 "java/lang/IllegalArgumentException" : Cond) ∈ wsL_cutToOrder := (List.mem_cons_of_mem _ (List.mem_append_left _ (List.mem_append_left _ (List.mem_append_left _ (List.mem_append_left _ (List.mem_append_left _ (List.mem_append_left _ (List.mem_append_left _ (List.mem_append_left _ (List.mem_append_left _ (List.mem_append_left _ (List.mem_append_left _ (List.mem_append_left _ (List.mem_of_getElem? (l := wsL_cutToOrder_r1) (i := 0) rfl))))))))))))))
theorem mw_L_cutToOrder_1 : (Cond.classLink RL 15 "java/lang/IllegalStateException" : Cond) ∈ wsL_cutToOrder := (List.mem_cons_of_mem _ (List.mem_append_left _ (List.mem_append_left _ (List.mem_append_left _ (List.mem_append_left _ (List.mem_append_left _ (List.mem_append_left _ (List.mem_append_left _ (List.mem_append_left _ (List.mem_append_left _ (List.mem_append_left _ (List.mem_append_left _ (List.mem_append_left _ (List.mem_of_getElem? (l := wsL_cutToOrder_r1) (i := 1) rfl))))))))))))))
set_option maxHeartbeats 4000000 in
set_option maxRecDepth 100000 in
theorem c_L_cutToOrder (l : Launch) (g : Gx) (hst : l.stackTraces = false) (a0 a1 a2 a3 a4 a5 a6 a7 a8 a9 a10 a11 a12 a13 a14 a15 a16 a17 a18 a19 a20 a21 a22 a23 a24 a25 a26 a27 : Nat) (v0 : Int32) (v1 : Nat → Int64) (v2 : Int32) (v3 : Nat → Int64) (v4 : Nat → Int32) (v5 : Nat → Int32) (v6 : Int32) (v7 : Nat → Int32) (v8 : Nat → Int32) (v9 : Int32) (v10 : Int32) (v11 : Nat → Int32) (v12 : Int32) (v13 : Nat → Int64) (v14 : Int32) (v15 : Nat → Int64) (v16 : Nat → Int64) (v17 : ZL) (p1 : Int64) (p3 : Int32) {post : Int32 → Int32 → (Nat → Int64) → (Nat → Int32) → (Nat → Int32) → Int32 → (Nat → Int32) → (Nat → Int32) → Int32 → Int32 → (Nat → Int32) → Int32 → (Nat → Int64) → Int32 → (Nat → Int64) → (Nat → Int64) → ZL → Prop} {mc ms : Nat} (h : P_L_cutToOrder post mc ms p1 p3 v0 v1 v2 v3 v4 v5 v6 v7 v8 v9 v10 v11 v12 v13 v14 v15 v16 v17) : cm l g yL_cutToOrder wsL_cutToOrder (rm_L_cutToOrder mc ms) [.ref a0, .long p1, .int p3, .ref a23] (W_L_cutToOrder g a0 a1 a2 a3 a4 a5 a6 a7 a8 a9 a10 a11 a12 a13 a14 a15 a16 a17 a18 a19 a20 a21 a22 a23 a24 a25 a26 a27 v0 v1 v2 v3 v4 v5 v6 v7 v8 v9 v10 v11 v12 v13 v14 v15 v16 ++ ZP g a24 v17) (fun v X1 => ∃ (r : Int32) (uv2 : Int32) (uv3 : Nat → Int64) (uv4 : Nat → Int32) (uv5 : Nat → Int32) (uv6 : Int32) (uv7 : Nat → Int32) (uv8 : Nat → Int32) (uv9 : Int32) (uv10 : Int32) (uv11 : Nat → Int32) (uv12 : Int32) (uv13 : Nat → Int64) (uv14 : Int32) (uv15 : Nat → Int64) (uv16 : Nat → Int64) (uv17 : ZL), v = some (.int r) ∧ X1 = W_L_cutToOrder g a0 a1 a2 a3 a4 a5 a6 a7 a8 a9 a10 a11 a12 a13 a14 a15 a16 a17 a18 a19 a20 a21 a22 a23 a24 a25 a26 a27 v0 v1 uv2 uv3 uv4 uv5 uv6 uv7 uv8 uv9 uv10 uv11 uv12 uv13 uv14 uv15 uv16 ++ ZP g a24 uv17 ∧ post r uv2 uv3 uv4 uv5 uv6 uv7 uv8 uv9 uv10 uv11 uv12 uv13 uv14 uv15 uv16 uv17) := by
  refine cmW_of (cc := cL_cutToOrder) (nL := 6) (ret := (some .int)) (hh := [(0, 11, 14, 13), (0, 11, 18, 15)]) (by decide +kernel) rfl (Nat.le_of_ble_eq_true rfl) ?_
  intro x hf hl hg hn hi hr tb
  subst hl
  subst hg
  show ww x (W_L_cutToOrder (xg x) a0 a1 a2 a3 a4 a5 a6 a7 a8 a9 a10 a11 a12 a13 a14 a15 a16 a17 a18 a19 a20 a21 a22 a23 a24 a25 a26 a27 v0 v1 v2 v3 v4 v5 v6 v7 v8 v9 v10 v11 v12 v13 v14 v15 v16 ++ ZP (xg x) a24 v17) [(0, .ref a0), (1, .long p1), (3, .int p3), (4, .ref a23)] 0 0 0 []
  unfold P_L_cutToOrder at h
  have hk : 0 + mc ≤ (rm_L_cutToOrder mc ms).cells ∧ 0 + ms ≤ (rm_L_cutToOrder mc ms).slots := ⟨Nat.le_of_eq (Nat.zero_add mc), Nat.le_of_eq (Nat.zero_add ms)⟩
  refine xw_aload hf (pc := 0) dL_cutToOrder_0 3 rfl ?_
  refine xw_iconst hf (pc := 2) dL_cutToOrder_2 (v := 0) (by decide) ?_
  refine xw_aload_n hf (pc := 3) dL_cutToOrder_3 rfl 0 rfl ?_
  refine xw_lload_n hf (pc := 4) dL_cutToOrder_4 rfl 1 rfl ?_
  refine xw_iload_n hf (pc := 5) dL_cutToOrder_5 rfl 2 rfl ?_
  obtain ⟨mc17, ms18, mc19, ms20, ⟨hb1, hb2⟩, h⟩ := h
  refine xw_callVX hf (pc := 6) (nA := 2) (Xr := [(a23, .inl (gJ (xg x), 1, .inr (.inl v16)))]) (rest := [.int 0, .ref a23]) (T := TX8) (c_X8_cutToOrder (xl x) (xg x) hst a0 a1 a2 a3 a4 a5 a6 a7 a8 a9 a10 a11 a12 a13 a14 a15 a16 a17 a18 a19 a20 a21 a22 a24 a25 a26 a27 v0 v1 v2 v3 v4 v5 v6 v7 v8 v9 v10 v11 v12 v13 v14 v15 v17 p1 p3 h) gL_cutToOrder_X8_cutToOrder (by rfl) rfl rfl (by decide +kernel) ⟨⟨(Nat.le_of_ble_eq_true rfl), (Nat.le_of_ble_eq_true rfl)⟩, (Nat.le_trans (show 0 + mc17 ≤ 0 + mc by omega) hk.1), (Nat.le_trans (show 0 + ms18 ≤ 0 + ms by omega) hk.2)⟩ (Nat.le_of_ble_eq_true rfl) rfl rfl (sb_zc (sb_of [0, 1, 2, 3, 4, 5, 6, 7, 8, 9, 10, 11, 12, 13, 14, 15, 16, 17, 18, 19, 20, 21, 22, 23] rfl rfl)) rfl dL_cutToOrder_6 (fun v X1 hp => ?_) (fun E36 X1 hp => ?_)
  · obtain ⟨r1, w2, w3, w4, w5, w6, w7, w8, w9, w10, w11, w12, w13, w14, w15, w16, rfl, rfl, h⟩ := hp
    have hk : 0 + mc17 + mc19 ≤ (rm_L_cutToOrder mc ms).cells ∧ 0 + ms18 + ms20 ≤ (rm_L_cutToOrder mc ms).slots := ⟨Nat.le_trans (show 0 + mc17 + mc19 ≤ 0 + mc by omega) hk.1, Nat.le_trans (show 0 + ms18 + ms20 ≤ 0 + ms by omega) hk.2⟩
    refine xw_X (sb_cz (sb_of [0, 1, 2, 3, 4, 5, 6, 7, 8, 9, 10, 11, 12, 13, 14, 15, 16, 17, 18, 19, 20, 21, 22, 23] rfl rfl)) (show ww x (W_L_cutToOrder (xg x) a0 a1 a2 a3 a4 a5 a6 a7 a8 a9 a10 a11 a12 a13 a14 a15 a16 a17 a18 a19 a20 a21 a22 a23 a24 a25 a26 a27 v0 v1 w2 w3 w4 w5 w6 w7 w8 w9 w10 w11 w12 w13 w14 w15 v16 ++ ZP (xg x) a24 w16) [(0, .ref a0), (1, .long p1), (3, .int p3), (4, .ref a23)] (0 + mc17) (0 + ms18) 9 [.int r1, .int 0, .ref a23] from ?_)
    refine xw_i2l hf (pc := 9) dL_cutToOrder_9 ?_
    refine xw_last hf (pc := 10) dL_cutToOrder_10 23 rfl h.1 (W_L_cutToOrder (xg x) a0 a1 a2 a3 a4 a5 a6 a7 a8 a9 a10 a11 a12 a13 a14 a15 a16 a17 a18 a19 a20 a21 a22 a23 a24 a25 a26 a27 v0 v1 w2 w3 w4 w5 w6 w7 w8 w9 w10 w11 w12 w13 w14 w15 (vp_updL v16 (0 : Int32).toNatClampNeg r1.toInt64) ++ ZP (xg x) a24 w16) rfl ?_
    have h := h.2
    refine xw_goto hf (pc := 11) dL_cutToOrder_11 (tgt := 22) rfl ?_
    refine xw_iconst hf (pc := 22) dL_cutToOrder_22 (v := 0) (by decide) ?_
    exact xw_iret hf (pc := 23) dL_cutToOrder_23 hr (Nat.le_trans (Nat.le_add_right _ _) hk.1) (Nat.le_trans (Nat.le_add_right _ _) hk.2) ⟨_, _, _, _, _, _, _, _, _, _, _, _, _, _, _, _, _, rfl, rfl, h⟩
  · have hk : 0 + mc17 + mc19 ≤ (rm_L_cutToOrder mc ms).cells ∧ 0 + ms18 + ms20 ≤ (rm_L_cutToOrder mc ms).slots := ⟨Nat.le_trans (show 0 + mc17 + mc19 ≤ 0 + mc by omega) hk.1, Nat.le_trans (show 0 + ms18 + ms20 ≤ 0 + ms by omega) hk.2⟩
    obtain ⟨w21, w22, w23, w24, w25, w26, w27, w28, w29, w30, w31, w32, w33, w34, w35, rfl, h⟩ := hp
    refine xe_X (sb_cz (sb_of [0, 1, 2, 3, 4, 5, 6, 7, 8, 9, 10, 11, 12, 13, 14, 15, 16, 17, 18, 19, 20, 21, 22, 23] rfl rfl)) (show wx x (W_L_cutToOrder (xg x) a0 a1 a2 a3 a4 a5 a6 a7 a8 a9 a10 a11 a12 a13 a14 a15 a16 a17 a18 a19 a20 a21 a22 a23 a24 a25 a26 a27 v0 v1 w21 w22 w23 w24 w25 w26 w27 w28 w29 w30 w31 w32 w33 w34 v16 ++ ZP (xg x) a24 w35) [(0, .ref a0), (1, .long p1), (3, .int p3), (4, .ref a23)] (0 + mc17) (0 + ms18) 6 E36 [.int 0, .ref a23] from ?_)
    rcases h with ⟨rfl, h⟩ | ⟨rfl, h⟩
    · refine xw_catchA hf tb rfl (by decide) mw_L_cutToOrder_0 ((fav hf).1 _ (List.mem_of_getElem? (i := 0) rfl)) (fun q37 => ?_)
      refine xw_astore hf (pc := 14) dL_cutToOrder_14 [(5, .ref q37), (0, .ref a0), (1, .long p1), (3, .int p3), (4, .ref a23)] hn (by decide) rfl ?_
      refine xw_iconst hf (pc := 16) dL_cutToOrder_16 (v := 1) (by decide) ?_
      exact xw_iret hf (pc := 17) dL_cutToOrder_17 hr (Nat.le_trans (Nat.le_add_right _ _) hk.1) (Nat.le_trans (Nat.le_add_right _ _) hk.2) ⟨_, _, _, _, _, _, _, _, _, _, _, _, _, _, _, _, _, rfl, rfl, h⟩
    · refine xw_catchB hf tb (by decide) mw_L_cutToOrder_0 ((fav hf).2.2.2.2.2.1 _ (List.mem_of_getElem? (i := 0) rfl)) rfl (by decide) mw_L_cutToOrder_1 ((fav hf).1 _ (List.mem_of_getElem? (i := 1) rfl)) (fun q38 => ?_)
      refine xw_astore hf (pc := 18) dL_cutToOrder_18 [(5, .ref q38), (0, .ref a0), (1, .long p1), (3, .int p3), (4, .ref a23)] hn (by decide) rfl ?_
      refine xw_iconst hf (pc := 20) dL_cutToOrder_20 (v := 2) (by decide) ?_
      exact xw_iret hf (pc := 21) dL_cutToOrder_21 hr (Nat.le_trans (Nat.le_add_right _ _) hk.1) (Nat.le_trans (Nat.le_add_right _ _) hk.2) ⟨_, _, _, _, _, _, _, _, _, _, _, _, _, _, _, _, _, rfl, rfl, h⟩
abbrev W_L_receiptWord (g : Gx) (a0 a1 a2 a3 a4 a5 a6 a7 a8 a9 : Nat) (v0 : Int32) (v1 : Nat → Int64) : va_W := [(a0, .inr (8, [.ref a4, .ref a5, .ref a1, .ref a6, .ref a7])), (a1, .inr (1, [.ref a3, .ref a8, .ref a9, .int v0])), (a2, .inl (gJ g, 1, .inr (.inl v1)))]
abbrev rm_L_receiptWord : Room := { frames := 9, cells := 1, slots := 6, locals := 183 }
theorem mw_L_receiptWord_0 : (Cond.classLink RL 26 "java/lang/IndexOutOfBoundsException" : Cond) ∈ wsL_receiptWord := (List.mem_cons_of_mem _ (List.mem_append_left _ (List.mem_append_left _ (List.mem_append_left _ (List.mem_append_left _ (List.mem_append_left _ (List.mem_append_left _ (List.mem_of_getElem? (l := wsL_receiptWord_r1) (i := 0) rfl))))))))
set_option maxHeartbeats 4000000 in
set_option maxRecDepth 100000 in
theorem c_L_receiptWord (l : Launch) (g : Gx) (hst : l.stackTraces = false) (a0 a1 a2 a3 a4 a5 a6 a7 a8 a9 : Nat) (v0 : Int32) (v1 : Nat → Int64) (v2 : ZL) (p1 : Int32) {post : Int32 → (Nat → Int64) → Prop} (h : P_L_receiptWord post p1 v0 v1 v2) : cm l g yL_receiptWord wsL_receiptWord (rm_L_receiptWord) [.ref a0, .int p1, .ref a2] (W_L_receiptWord g a0 a1 a2 a3 a4 a5 a6 a7 a8 a9 v0 v1 ++ ZP g a3 v2) (fun v X1 => ∃ (r : Int32) (uv1 : Nat → Int64), v = some (.int r) ∧ X1 = W_L_receiptWord g a0 a1 a2 a3 a4 a5 a6 a7 a8 a9 v0 uv1 ++ ZP g a3 v2 ∧ post r uv1) := by
  refine cmW_of (cc := cL_receiptWord) (nL := 4) (ret := (some .int)) (hh := [(0, 8, 11, 26)]) (by decide +kernel) rfl (Nat.le_of_ble_eq_true rfl) ?_
  intro x hf hl hg hn hi hr tb
  subst hl
  subst hg
  show ww x (W_L_receiptWord (xg x) a0 a1 a2 a3 a4 a5 a6 a7 a8 a9 v0 v1 ++ ZP (xg x) a3 v2) [(0, .ref a0), (1, .int p1), (2, .ref a2)] 0 0 0 []
  unfold P_L_receiptWord at h
  refine xw_aload_n hf (pc := 0) dL_receiptWord_0 rfl 2 rfl ?_
  refine xw_iconst hf (pc := 1) dL_receiptWord_1 (v := 0) (by decide) ?_
  refine xw_aload_n hf (pc := 2) dL_receiptWord_2 rfl 0 rfl ?_
  refine xw_iload_n hf (pc := 3) dL_receiptWord_3 rfl 1 rfl ?_
  refine xw_callVX hf (pc := 4) (nA := 1) (Xr := [(a2, .inl (gJ (xg x), 1, .inr (.inl v1)))]) (rest := [.int 0, .ref a2]) (T := TX8) (c_X8_receiptWord (xl x) (xg x) hst a0 a1 a3 a4 a5 a6 a7 a8 a9 v0 v2 p1 h) gL_receiptWord_X8_receiptWord (by rfl) rfl rfl (by decide +kernel) ⟨⟨(Nat.le_of_ble_eq_true rfl), (Nat.le_of_ble_eq_true rfl)⟩, (Nat.le_of_ble_eq_true rfl), (Nat.le_of_ble_eq_true rfl)⟩ (Nat.le_of_ble_eq_true rfl) rfl rfl (sb_zc (sb_of [0, 1, 2] rfl rfl)) rfl dL_receiptWord_4 (fun v X1 hp => ?_) (fun E2 X1 hp => ?_)
  · obtain ⟨r1, rfl, rfl, h⟩ := hp
    refine xw_X (sb_cz (sb_of [0, 1, 2] rfl rfl)) (show ww x (W_L_receiptWord (xg x) a0 a1 a2 a3 a4 a5 a6 a7 a8 a9 v0 v1 ++ ZP (xg x) a3 v2) [(0, .ref a0), (1, .int p1), (2, .ref a2)] 1 6 7 [.long r1, .int 0, .ref a2] from ?_)
    refine xw_last hf (pc := 7) dL_receiptWord_7 2 rfl h.1 (W_L_receiptWord (xg x) a0 a1 a2 a3 a4 a5 a6 a7 a8 a9 v0 (vp_updL v1 (0 : Int32).toNatClampNeg r1) ++ ZP (xg x) a3 v2) rfl ?_
    have h := h.2
    refine xw_goto hf (pc := 8) dL_receiptWord_8 (tgt := 14) rfl ?_
    refine xw_iconst hf (pc := 14) dL_receiptWord_14 (v := 0) (by decide) ?_
    exact xw_iret hf (pc := 15) dL_receiptWord_15 hr (Nat.le_of_ble_eq_true rfl) (Nat.le_of_ble_eq_true rfl) ⟨_, _, rfl, rfl, h⟩
  · obtain ⟨rfl, h⟩ := hp
    refine xe_X (sb_cz (sb_of [0, 1, 2] rfl rfl)) (show wx x (W_L_receiptWord (xg x) a0 a1 a2 a3 a4 a5 a6 a7 a8 a9 v0 v1 ++ ZP (xg x) a3 v2) [(0, .ref a0), (1, .int p1), (2, .ref a2)] 1 6 4 E2 [.int 0, .ref a2] from ?_)
    obtain ⟨rfl, h⟩ := h
    refine xw_catchA hf tb rfl (by decide) mw_L_receiptWord_0 ((fav hf).1 _ (List.mem_of_getElem? (i := 3) rfl)) (fun q3 => ?_)
    refine xw_astore_n hf (pc := 11) dL_receiptWord_11 rfl [(3, .ref q3), (0, .ref a0), (1, .int p1), (2, .ref a2)] hn (by decide) rfl ?_
    refine xw_iconst hf (pc := 12) dL_receiptWord_12 (v := 1) (by decide) ?_
    exact xw_iret hf (pc := 13) dL_receiptWord_13 hr (Nat.le_of_ble_eq_true rfl) (Nat.le_of_ble_eq_true rfl) ⟨_, _, rfl, rfl, h⟩
abbrev W_L_receiptPrice (g : Gx) (a0 a1 a2 a3 a4 a5 a6 a7 a8 a9 : Nat) (v0 : Int32) (v1 : Nat → Int64) : va_W := [(a0, .inr (8, [.ref a4, .ref a5, .ref a1, .ref a6, .ref a7])), (a1, .inr (1, [.ref a3, .ref a8, .ref a9, .int v0])), (a2, .inl (gJ g, 1, .inr (.inl v1)))]
abbrev rm_L_receiptPrice : Room := { frames := 9, cells := 1, slots := 6, locals := 183 }
theorem mw_L_receiptPrice_0 : (Cond.classLink RL 26 "java/lang/IndexOutOfBoundsException" : Cond) ∈ wsL_receiptPrice := (List.mem_cons_of_mem _ (List.mem_append_left _ (List.mem_append_left _ (List.mem_append_left _ (List.mem_append_left _ (List.mem_append_left _ (List.mem_append_left _ (List.mem_of_getElem? (l := wsL_receiptPrice_r1) (i := 0) rfl))))))))
set_option maxHeartbeats 4000000 in
set_option maxRecDepth 100000 in
theorem c_L_receiptPrice (l : Launch) (g : Gx) (hst : l.stackTraces = false) (a0 a1 a2 a3 a4 a5 a6 a7 a8 a9 : Nat) (v0 : Int32) (v1 : Nat → Int64) (v2 : ZL) (p1 : Int32) {post : Int32 → (Nat → Int64) → Prop} (h : P_L_receiptPrice post p1 v0 v1 v2) : cm l g yL_receiptPrice wsL_receiptPrice (rm_L_receiptPrice) [.ref a0, .int p1, .ref a2] (W_L_receiptPrice g a0 a1 a2 a3 a4 a5 a6 a7 a8 a9 v0 v1 ++ ZP g a3 v2) (fun v X1 => ∃ (r : Int32) (uv1 : Nat → Int64), v = some (.int r) ∧ X1 = W_L_receiptPrice g a0 a1 a2 a3 a4 a5 a6 a7 a8 a9 v0 uv1 ++ ZP g a3 v2 ∧ post r uv1) := by
  refine cmW_of (cc := cL_receiptPrice) (nL := 4) (ret := (some .int)) (hh := [(0, 9, 12, 26)]) (by decide +kernel) rfl (Nat.le_of_ble_eq_true rfl) ?_
  intro x hf hl hg hn hi hr tb
  subst hl
  subst hg
  show ww x (W_L_receiptPrice (xg x) a0 a1 a2 a3 a4 a5 a6 a7 a8 a9 v0 v1 ++ ZP (xg x) a3 v2) [(0, .ref a0), (1, .int p1), (2, .ref a2)] 0 0 0 []
  unfold P_L_receiptPrice at h
  refine xw_aload_n hf (pc := 0) dL_receiptPrice_0 rfl 2 rfl ?_
  refine xw_iconst hf (pc := 1) dL_receiptPrice_1 (v := 0) (by decide) ?_
  refine xw_aload_n hf (pc := 2) dL_receiptPrice_2 rfl 0 rfl ?_
  refine xw_iload_n hf (pc := 3) dL_receiptPrice_3 rfl 1 rfl ?_
  refine xw_callVX hf (pc := 4) (nA := 1) (Xr := [(a2, .inl (gJ (xg x), 1, .inr (.inl v1)))]) (rest := [.int 0, .ref a2]) (T := TX8) (c_X8_receiptPrice (xl x) (xg x) hst a0 a1 a3 a4 a5 a6 a7 a8 a9 v0 v2 p1 h) gL_receiptPrice_X8_receiptPrice (by rfl) rfl rfl (by decide +kernel) ⟨⟨(Nat.le_of_ble_eq_true rfl), (Nat.le_of_ble_eq_true rfl)⟩, (Nat.le_of_ble_eq_true rfl), (Nat.le_of_ble_eq_true rfl)⟩ (Nat.le_of_ble_eq_true rfl) rfl rfl (sb_zc (sb_of [0, 1, 2] rfl rfl)) rfl dL_receiptPrice_4 (fun v X1 hp => ?_) (fun E2 X1 hp => ?_)
  · obtain ⟨r1, rfl, rfl, h⟩ := hp
    refine xw_X (sb_cz (sb_of [0, 1, 2] rfl rfl)) (show ww x (W_L_receiptPrice (xg x) a0 a1 a2 a3 a4 a5 a6 a7 a8 a9 v0 v1 ++ ZP (xg x) a3 v2) [(0, .ref a0), (1, .int p1), (2, .ref a2)] 1 6 7 [.int r1, .int 0, .ref a2] from ?_)
    refine xw_i2l hf (pc := 7) dL_receiptPrice_7 ?_
    refine xw_last hf (pc := 8) dL_receiptPrice_8 2 rfl h.1 (W_L_receiptPrice (xg x) a0 a1 a2 a3 a4 a5 a6 a7 a8 a9 v0 (vp_updL v1 (0 : Int32).toNatClampNeg r1.toInt64) ++ ZP (xg x) a3 v2) rfl ?_
    have h := h.2
    refine xw_goto hf (pc := 9) dL_receiptPrice_9 (tgt := 15) rfl ?_
    refine xw_iconst hf (pc := 15) dL_receiptPrice_15 (v := 0) (by decide) ?_
    exact xw_iret hf (pc := 16) dL_receiptPrice_16 hr (Nat.le_of_ble_eq_true rfl) (Nat.le_of_ble_eq_true rfl) ⟨_, _, rfl, rfl, h⟩
  · obtain ⟨rfl, h⟩ := hp
    refine xe_X (sb_cz (sb_of [0, 1, 2] rfl rfl)) (show wx x (W_L_receiptPrice (xg x) a0 a1 a2 a3 a4 a5 a6 a7 a8 a9 v0 v1 ++ ZP (xg x) a3 v2) [(0, .ref a0), (1, .int p1), (2, .ref a2)] 1 6 4 E2 [.int 0, .ref a2] from ?_)
    obtain ⟨rfl, h⟩ := h
    refine xw_catchA hf tb rfl (by decide) mw_L_receiptPrice_0 ((fav hf).1 _ (List.mem_of_getElem? (i := 3) rfl)) (fun q3 => ?_)
    refine xw_astore_n hf (pc := 12) dL_receiptPrice_12 rfl [(3, .ref q3), (0, .ref a0), (1, .int p1), (2, .ref a2)] hn (by decide) rfl ?_
    refine xw_iconst hf (pc := 13) dL_receiptPrice_13 (v := 1) (by decide) ?_
    exact xw_iret hf (pc := 14) dL_receiptPrice_14 hr (Nat.le_of_ble_eq_true rfl) (Nat.le_of_ble_eq_true rfl) ⟨_, _, rfl, rfl, h⟩
abbrev W_L_isReturned (g : Gx) (a0 a1 a2 a3 a4 a5 a6 a7 a8 a9 : Nat) (v0 : Int32) (v1 : Nat → Int64) : va_W := [(a0, .inr (8, [.ref a4, .ref a5, .ref a1, .ref a6, .ref a7])), (a1, .inr (1, [.ref a3, .ref a8, .ref a9, .int v0])), (a2, .inl (gJ g, 1, .inr (.inl v1)))]
abbrev rm_L_isReturned : Room := { frames := 9, cells := 1, slots := 6, locals := 183 }
theorem mw_L_isReturned_0 : (Cond.classLink RL 26 "java/lang/IndexOutOfBoundsException" : Cond) ∈ wsL_isReturned := (List.mem_cons_of_mem _ (List.mem_append_left _ (List.mem_append_left _ (List.mem_append_left _ (List.mem_append_left _ (List.mem_append_left _ (List.mem_append_left _ (List.mem_of_getElem? (l := wsL_isReturned_r1) (i := 0) rfl))))))))
set_option maxHeartbeats 4000000 in
set_option maxRecDepth 100000 in
theorem c_L_isReturned (l : Launch) (g : Gx) (hst : l.stackTraces = false) (a0 a1 a2 a3 a4 a5 a6 a7 a8 a9 : Nat) (v0 : Int32) (v1 : Nat → Int64) (v2 : ZL) (p1 : Int32) {post : Int32 → (Nat → Int64) → Prop} (h : P_L_isReturned post p1 v0 v1 v2) : cm l g yL_isReturned wsL_isReturned (rm_L_isReturned) [.ref a0, .int p1, .ref a2] (W_L_isReturned g a0 a1 a2 a3 a4 a5 a6 a7 a8 a9 v0 v1 ++ ZP g a3 v2) (fun v X1 => ∃ (r : Int32) (uv1 : Nat → Int64), v = some (.int r) ∧ X1 = W_L_isReturned g a0 a1 a2 a3 a4 a5 a6 a7 a8 a9 v0 uv1 ++ ZP g a3 v2 ∧ post r uv1) := by
  refine cmW_of (cc := cL_isReturned) (nL := 4) (ret := (some .int)) (hh := [(0, 16, 19, 26)]) (by decide +kernel) rfl (Nat.le_of_ble_eq_true rfl) ?_
  intro x hf hl hg hn hi hr tb
  subst hl
  subst hg
  show ww x (W_L_isReturned (xg x) a0 a1 a2 a3 a4 a5 a6 a7 a8 a9 v0 v1 ++ ZP (xg x) a3 v2) [(0, .ref a0), (1, .int p1), (2, .ref a2)] 0 0 0 []
  unfold P_L_isReturned at h
  refine xw_aload_n hf (pc := 0) dL_isReturned_0 rfl 2 rfl ?_
  refine xw_iconst hf (pc := 1) dL_isReturned_1 (v := 0) (by decide) ?_
  refine xw_aload_n hf (pc := 2) dL_isReturned_2 rfl 0 rfl ?_
  refine xw_iload_n hf (pc := 3) dL_isReturned_3 rfl 1 rfl ?_
  refine xw_callVX hf (pc := 4) (nA := 1) (Xr := [(a2, .inl (gJ (xg x), 1, .inr (.inl v1)))]) (rest := [.int 0, .ref a2]) (T := TX8) (c_X8_isReturned (xl x) (xg x) hst a0 a1 a3 a4 a5 a6 a7 a8 a9 v0 v2 p1 h) gL_isReturned_X8_isReturned (by rfl) rfl rfl (by decide +kernel) ⟨⟨(Nat.le_of_ble_eq_true rfl), (Nat.le_of_ble_eq_true rfl)⟩, (Nat.le_of_ble_eq_true rfl), (Nat.le_of_ble_eq_true rfl)⟩ (Nat.le_of_ble_eq_true rfl) rfl rfl (sb_zc (sb_of [0, 1, 2] rfl rfl)) rfl dL_isReturned_4 (fun v X1 hp => ?_) (fun E2 X1 hp => ?_)
  · obtain ⟨r1, rfl, rfl, h⟩ := hp
    refine xw_X (sb_cz (sb_of [0, 1, 2] rfl rfl)) (show ww x (W_L_isReturned (xg x) a0 a1 a2 a3 a4 a5 a6 a7 a8 a9 v0 v1 ++ ZP (xg x) a3 v2) [(0, .ref a0), (1, .int p1), (2, .ref a2)] 1 6 7 [.int r1, .int 0, .ref a2] from ?_)
    refine xw_if_eq hf (pc := 7) dL_isReturned_7 (c := r1 = 0) Iff.rfl (tgt := 14) rfl ⟨fun c => ?_, fun c => ?_⟩
    · have h := h.1 c
      refine xw_lconst hf (pc := 14) dL_isReturned_14 (v := 0) (by decide) ?_
      refine xw_last hf (pc := 15) dL_isReturned_15 2 rfl h.1 (W_L_isReturned (xg x) a0 a1 a2 a3 a4 a5 a6 a7 a8 a9 v0 (vp_updL v1 (0 : Int32).toNatClampNeg 0) ++ ZP (xg x) a3 v2) rfl ?_
      have h := h.2
      refine xw_goto hf (pc := 16) dL_isReturned_16 (tgt := 22) rfl ?_
      refine xw_iconst hf (pc := 22) dL_isReturned_22 (v := 0) (by decide) ?_
      exact xw_iret hf (pc := 23) dL_isReturned_23 hr (Nat.le_of_ble_eq_true rfl) (Nat.le_of_ble_eq_true rfl) ⟨_, _, rfl, rfl, h⟩
    · have h := h.2 c
      refine xw_lconst hf (pc := 10) dL_isReturned_10 (v := 1) (by decide) ?_
      refine xw_goto hf (pc := 11) dL_isReturned_11 (tgt := 15) rfl ?_
      refine xw_last hf (pc := 15) dL_isReturned_15 2 rfl h.1 (W_L_isReturned (xg x) a0 a1 a2 a3 a4 a5 a6 a7 a8 a9 v0 (vp_updL v1 (0 : Int32).toNatClampNeg 1) ++ ZP (xg x) a3 v2) rfl ?_
      have h := h.2
      refine xw_goto hf (pc := 16) dL_isReturned_16 (tgt := 22) rfl ?_
      refine xw_iconst hf (pc := 22) dL_isReturned_22 (v := 0) (by decide) ?_
      exact xw_iret hf (pc := 23) dL_isReturned_23 hr (Nat.le_of_ble_eq_true rfl) (Nat.le_of_ble_eq_true rfl) ⟨_, _, rfl, rfl, h⟩
  · obtain ⟨rfl, h⟩ := hp
    refine xe_X (sb_cz (sb_of [0, 1, 2] rfl rfl)) (show wx x (W_L_isReturned (xg x) a0 a1 a2 a3 a4 a5 a6 a7 a8 a9 v0 v1 ++ ZP (xg x) a3 v2) [(0, .ref a0), (1, .int p1), (2, .ref a2)] 1 6 4 E2 [.int 0, .ref a2] from ?_)
    obtain ⟨rfl, h⟩ := h
    refine xw_catchA hf tb rfl (by decide) mw_L_isReturned_0 ((fav hf).1 _ (List.mem_of_getElem? (i := 3) rfl)) (fun q3 => ?_)
    refine xw_astore_n hf (pc := 19) dL_isReturned_19 rfl [(3, .ref q3), (0, .ref a0), (1, .int p1), (2, .ref a2)] hn (by decide) rfl ?_
    refine xw_iconst hf (pc := 20) dL_isReturned_20 (v := 1) (by decide) ?_
    exact xw_iret hf (pc := 21) dL_isReturned_21 hr (Nat.le_of_ble_eq_true rfl) (Nat.le_of_ble_eq_true rfl) ⟨_, _, rfl, rfl, h⟩
abbrev W_L_takeBack (g : Gx) (a0 a1 a2 a3 a4 a5 a6 a7 a8 a9 a10 a11 a12 a13 a14 a15 : Nat) (v0 : Nat → Int32) (v1 : Int32) (v2 : Nat → Int32) (v3 : Nat → Int32) (v4 : Nat → Int64) : va_W := [(a0, .inr (8, [.ref a11, .ref a1, .ref a4, .ref a12, .ref a7])), (a1, .inr (6, [.ref a2, .ref a13, .ref a14])), (a2, .inr (3, [.ref a3])), (a3, .inl (gI g, 32, .inl v0)), (a4, .inr (1, [.ref a10, .ref a15, .ref a5, .int v1])), (a5, .inr (3, [.ref a6])), (a6, .inl (gI g, 32, .inl v2)), (a7, .inr (3, [.ref a8])), (a8, .inl (gI g, 32, .inl v3)), (a9, .inl (gJ g, 1, .inr (.inl v4)))]
abbrev rm_L_takeBack : Room := { frames := 9, cells := 2, slots := 12, locals := 184 }
theorem mw_L_takeBack_0 : (Cond.classLink RL 26 "java/lang/IndexOutOfBoundsException" : Cond) ∈ wsL_takeBack := (List.mem_cons_of_mem _ (List.mem_append_left _ (List.mem_append_left _ (List.mem_append_left _ (List.mem_append_left _ (List.mem_append_left _ (List.mem_append_left _ (List.mem_append_left _ (List.mem_append_left _ (List.mem_append_left _ (List.mem_of_getElem? (l := wsL_takeBack_r1) (i := 0) rfl)))))))))))
theorem mw_L_takeBack_1 : (Cond.classLink RL 15 "java/lang/IllegalStateException" : Cond) ∈ wsL_takeBack := (List.mem_cons_of_mem _ (List.mem_append_left _ (List.mem_append_left _ (List.mem_append_left _ (List.mem_append_left _ (List.mem_append_left _ (List.mem_append_left _ (List.mem_append_left _ (List.mem_append_left _ (List.mem_append_left _ (List.mem_of_getElem? (l := wsL_takeBack_r1) (i := 1) rfl)))))))))))
set_option maxHeartbeats 4000000 in
set_option maxRecDepth 100000 in
theorem c_L_takeBack (l : Launch) (g : Gx) (hst : l.stackTraces = false) (a0 a1 a2 a3 a4 a5 a6 a7 a8 a9 a10 a11 a12 a13 a14 a15 : Nat) (v0 : Nat → Int32) (v1 : Int32) (v2 : Nat → Int32) (v3 : Nat → Int32) (v4 : Nat → Int64) (v5 : ZL) (p1 : Int32) {post : Int32 → (Nat → Int32) → Int32 → (Nat → Int32) → (Nat → Int32) → (Nat → Int64) → ZL → Prop} (h : P_L_takeBack post p1 v0 v1 v2 v3 v4 v5) : cm l g yL_takeBack wsL_takeBack (rm_L_takeBack) [.ref a0, .int p1, .ref a9] (W_L_takeBack g a0 a1 a2 a3 a4 a5 a6 a7 a8 a9 a10 a11 a12 a13 a14 a15 v0 v1 v2 v3 v4 ++ ZP g a10 v5) (fun v X1 => ∃ (r : Int32) (uv0 : Nat → Int32) (uv1 : Int32) (uv2 : Nat → Int32) (uv3 : Nat → Int32) (uv4 : Nat → Int64) (uv5 : ZL), v = some (.int r) ∧ X1 = W_L_takeBack g a0 a1 a2 a3 a4 a5 a6 a7 a8 a9 a10 a11 a12 a13 a14 a15 uv0 uv1 uv2 uv3 uv4 ++ ZP g a10 uv5 ∧ post r uv0 uv1 uv2 uv3 uv4 uv5) := by
  refine cmW_of (cc := cL_takeBack) (nL := 4) (ret := (some .int)) (hh := [(0, 9, 12, 26), (0, 9, 15, 15)]) (by decide +kernel) rfl (Nat.le_of_ble_eq_true rfl) ?_
  intro x hf hl hg hn hi hr tb
  subst hl
  subst hg
  show ww x (W_L_takeBack (xg x) a0 a1 a2 a3 a4 a5 a6 a7 a8 a9 a10 a11 a12 a13 a14 a15 v0 v1 v2 v3 v4 ++ ZP (xg x) a10 v5) [(0, .ref a0), (1, .int p1), (2, .ref a9)] 0 0 0 []
  unfold P_L_takeBack at h
  refine xw_aload_n hf (pc := 0) dL_takeBack_0 rfl 2 rfl ?_
  refine xw_iconst hf (pc := 1) dL_takeBack_1 (v := 0) (by decide) ?_
  refine xw_aload_n hf (pc := 2) dL_takeBack_2 rfl 0 rfl ?_
  refine xw_iload_n hf (pc := 3) dL_takeBack_3 rfl 1 rfl ?_
  refine xw_callVX hf (pc := 4) (nA := 1) (Xr := [(a9, .inl (gJ (xg x), 1, .inr (.inl v4)))]) (rest := [.int 0, .ref a9]) (T := TX8) (c_X8_takeBack (xl x) (xg x) hst a0 a1 a2 a3 a4 a5 a6 a7 a8 a10 a11 a12 a13 a14 a15 v0 v1 v2 v3 v5 p1 h) gL_takeBack_X8_takeBack (by rfl) rfl rfl (by decide +kernel) ⟨⟨(Nat.le_of_ble_eq_true rfl), (Nat.le_of_ble_eq_true rfl)⟩, (Nat.le_of_ble_eq_true rfl), (Nat.le_of_ble_eq_true rfl)⟩ (Nat.le_of_ble_eq_true rfl) rfl rfl (sb_zc (sb_of [0, 1, 2, 3, 4, 5, 6, 7, 8, 9] rfl rfl)) rfl dL_takeBack_4 (fun v X1 hp => ?_) (fun E12 X1 hp => ?_)
  · obtain ⟨r1, w2, w3, w4, w5, w6, rfl, rfl, h⟩ := hp
    refine xw_X (sb_cz (sb_of [0, 1, 2, 3, 4, 5, 6, 7, 8, 9] rfl rfl)) (show ww x (W_L_takeBack (xg x) a0 a1 a2 a3 a4 a5 a6 a7 a8 a9 a10 a11 a12 a13 a14 a15 w2 w3 w4 w5 v4 ++ ZP (xg x) a10 w6) [(0, .ref a0), (1, .int p1), (2, .ref a9)] 2 12 7 [.int r1, .int 0, .ref a9] from ?_)
    refine xw_i2l hf (pc := 7) dL_takeBack_7 ?_
    refine xw_last hf (pc := 8) dL_takeBack_8 9 rfl h.1 (W_L_takeBack (xg x) a0 a1 a2 a3 a4 a5 a6 a7 a8 a9 a10 a11 a12 a13 a14 a15 w2 w3 w4 w5 (vp_updL v4 (0 : Int32).toNatClampNeg r1.toInt64) ++ ZP (xg x) a10 w6) rfl ?_
    have h := h.2
    refine xw_goto hf (pc := 9) dL_takeBack_9 (tgt := 18) rfl ?_
    refine xw_iconst hf (pc := 18) dL_takeBack_18 (v := 0) (by decide) ?_
    exact xw_iret hf (pc := 19) dL_takeBack_19 hr (Nat.le_of_ble_eq_true rfl) (Nat.le_of_ble_eq_true rfl) ⟨_, _, _, _, _, _, _, rfl, rfl, h⟩
  · obtain ⟨w7, w8, w9, w10, w11, rfl, h⟩ := hp
    refine xe_X (sb_cz (sb_of [0, 1, 2, 3, 4, 5, 6, 7, 8, 9] rfl rfl)) (show wx x (W_L_takeBack (xg x) a0 a1 a2 a3 a4 a5 a6 a7 a8 a9 a10 a11 a12 a13 a14 a15 w7 w8 w9 w10 v4 ++ ZP (xg x) a10 w11) [(0, .ref a0), (1, .int p1), (2, .ref a9)] 2 12 4 E12 [.int 0, .ref a9] from ?_)
    rcases h with ⟨rfl, h⟩ | ⟨rfl, h⟩
    · refine xw_catchA hf tb rfl (by decide) mw_L_takeBack_0 ((fav hf).1 _ (List.mem_of_getElem? (i := 3) rfl)) (fun q13 => ?_)
      refine xw_astore_n hf (pc := 12) dL_takeBack_12 rfl [(3, .ref q13), (0, .ref a0), (1, .int p1), (2, .ref a9)] hn (by decide) rfl ?_
      refine xw_iconst hf (pc := 13) dL_takeBack_13 (v := 1) (by decide) ?_
      exact xw_iret hf (pc := 14) dL_takeBack_14 hr (Nat.le_of_ble_eq_true rfl) (Nat.le_of_ble_eq_true rfl) ⟨_, _, _, _, _, _, _, rfl, rfl, h⟩
    · refine xw_catchB hf tb (by decide) mw_L_takeBack_0 ((fav hf).2.2.2.2.2.1 _ (List.mem_of_getElem? (i := 3) rfl)) rfl (by decide) mw_L_takeBack_1 ((fav hf).1 _ (List.mem_of_getElem? (i := 1) rfl)) (fun q14 => ?_)
      refine xw_astore_n hf (pc := 15) dL_takeBack_15 rfl [(3, .ref q14), (0, .ref a0), (1, .int p1), (2, .ref a9)] hn (by decide) rfl ?_
      refine xw_iconst hf (pc := 16) dL_takeBack_16 (v := 2) (by decide) ?_
      exact xw_iret hf (pc := 17) dL_takeBack_17 hr (Nat.le_of_ble_eq_true rfl) (Nat.le_of_ble_eq_true rfl) ⟨_, _, _, _, _, _, _, rfl, rfl, h⟩
abbrev W_L_cameIn (g : Gx) (a0 a1 a2 a3 a4 a5 a6 a7 a8 a9 a10 : Nat) (v0 : Int32) (v1 : Nat → Int32) (v2 : Nat → Int64) : va_W := [(a0, .inr (8, [.ref a5, .ref a6, .ref a1, .ref a7, .ref a8])), (a1, .inr (1, [.ref a9, .ref a2, .ref a10, .int v0])), (a2, .inr (3, [.ref a3])), (a3, .inl (gI g, 32, .inl v1)), (a4, .inl (gJ g, 1, .inr (.inl v2)))]
abbrev rm_L_cameIn : Room := { frames := 10, cells := 1, slots := 6, locals := 163 }
theorem mw_L_cameIn_0 : (Cond.classLink RL 13 "java/lang/IllegalArgumentException" : Cond) ∈ wsL_cameIn := (List.mem_cons_of_mem _ (List.mem_append_left _ (List.mem_append_left _ (List.mem_append_left _ (List.mem_append_left _ (List.mem_of_getElem? (i := 0) rfl))))))
set_option maxHeartbeats 4000000 in
set_option maxRecDepth 100000 in
theorem c_L_cameIn (l : Launch) (g : Gx) (hst : l.stackTraces = false) (a0 a1 a2 a3 a4 a5 a6 a7 a8 a9 a10 : Nat) (v0 : Int32) (v1 : Nat → Int32) (v2 : Nat → Int64) (p1 : Int32) {post : Int32 → (Nat → Int64) → Prop} (h : P_L_cameIn post p1 v0 v1 v2) : cm l g yL_cameIn wsL_cameIn (rm_L_cameIn) [.ref a0, .int p1, .ref a4] (W_L_cameIn g a0 a1 a2 a3 a4 a5 a6 a7 a8 a9 a10 v0 v1 v2) (fun v X1 => ∃ (r : Int32) (uv2 : Nat → Int64), v = some (.int r) ∧ X1 = W_L_cameIn g a0 a1 a2 a3 a4 a5 a6 a7 a8 a9 a10 v0 v1 uv2 ∧ post r uv2) := by
  refine cmW_of (cc := cL_cameIn) (nL := 4) (ret := (some .int)) (hh := [(0, 9, 12, 13)]) (by decide +kernel) rfl (Nat.le_of_ble_eq_true rfl) ?_
  intro x hf hl hg hn hi hr tb
  subst hl
  subst hg
  show ww x (W_L_cameIn (xg x) a0 a1 a2 a3 a4 a5 a6 a7 a8 a9 a10 v0 v1 v2) [(0, .ref a0), (1, .int p1), (2, .ref a4)] 0 0 0 []
  unfold P_L_cameIn at h
  refine xw_aload_n hf (pc := 0) dL_cameIn_0 rfl 2 rfl ?_
  refine xw_iconst hf (pc := 1) dL_cameIn_1 (v := 0) (by decide) ?_
  refine xw_aload_n hf (pc := 2) dL_cameIn_2 rfl 0 rfl ?_
  refine xw_iload_n hf (pc := 3) dL_cameIn_3 rfl 1 rfl ?_
  refine xw_callVX hf (pc := 4) (nA := 1) (Xr := [(a4, .inl (gJ (xg x), 1, .inr (.inl v2)))]) (rest := [.int 0, .ref a4]) (T := TX8) (c_X8_cameIn (xl x) (xg x) hst a0 a1 a2 a3 a5 a6 a7 a8 a9 a10 v0 v1 p1 h) gL_cameIn_X8_cameIn (by rfl) rfl rfl (by decide +kernel) ⟨⟨(Nat.le_of_ble_eq_true rfl), (Nat.le_of_ble_eq_true rfl)⟩, (Nat.le_of_ble_eq_true rfl), (Nat.le_of_ble_eq_true rfl)⟩ (Nat.le_of_ble_eq_true rfl) rfl rfl (sb_of [0, 1, 2, 3, 4] rfl rfl) rfl dL_cameIn_4 (fun v X1 hp => ?_) (fun E2 X1 hp => ?_)
  · obtain ⟨r1, rfl, rfl, h⟩ := hp
    refine xw_X (sb_of [0, 1, 2, 3, 4] rfl rfl) (show ww x (W_L_cameIn (xg x) a0 a1 a2 a3 a4 a5 a6 a7 a8 a9 a10 v0 v1 v2) [(0, .ref a0), (1, .int p1), (2, .ref a4)] 1 6 7 [.int r1, .int 0, .ref a4] from ?_)
    refine xw_i2l hf (pc := 7) dL_cameIn_7 ?_
    refine xw_last hf (pc := 8) dL_cameIn_8 4 rfl h.1 (W_L_cameIn (xg x) a0 a1 a2 a3 a4 a5 a6 a7 a8 a9 a10 v0 v1 (vp_updL v2 (0 : Int32).toNatClampNeg r1.toInt64)) rfl ?_
    have h := h.2
    refine xw_goto hf (pc := 9) dL_cameIn_9 (tgt := 15) rfl ?_
    refine xw_iconst hf (pc := 15) dL_cameIn_15 (v := 0) (by decide) ?_
    exact xw_iret hf (pc := 16) dL_cameIn_16 hr (Nat.le_of_ble_eq_true rfl) (Nat.le_of_ble_eq_true rfl) ⟨_, _, rfl, rfl, h⟩
  · obtain ⟨rfl, h⟩ := hp
    refine xe_X (sb_of [0, 1, 2, 3, 4] rfl rfl) (show wx x (W_L_cameIn (xg x) a0 a1 a2 a3 a4 a5 a6 a7 a8 a9 a10 v0 v1 v2) [(0, .ref a0), (1, .int p1), (2, .ref a4)] 1 6 4 E2 [.int 0, .ref a4] from ?_)
    obtain ⟨rfl, h⟩ := h
    refine xw_catchA hf tb rfl (by decide) mw_L_cameIn_0 ((fav hf).1 _ (List.mem_of_getElem? (i := 0) rfl)) (fun q3 => ?_)
    refine xw_astore_n hf (pc := 12) dL_cameIn_12 rfl [(3, .ref q3), (0, .ref a0), (1, .int p1), (2, .ref a4)] hn (by decide) rfl ?_
    refine xw_iconst hf (pc := 13) dL_cameIn_13 (v := 1) (by decide) ?_
    exact xw_iret hf (pc := 14) dL_cameIn_14 hr (Nat.le_of_ble_eq_true rfl) (Nat.le_of_ble_eq_true rfl) ⟨_, _, rfl, rfl, h⟩
abbrev W_L_soldPieces (g : Gx) (a0 a1 a2 a3 a4 a5 a6 a7 a8 a9 a10 : Nat) (v0 : Int32) (v1 : Nat → Int32) (v2 : Nat → Int64) : va_W := [(a0, .inr (8, [.ref a5, .ref a6, .ref a1, .ref a7, .ref a8])), (a1, .inr (1, [.ref a9, .ref a10, .ref a2, .int v0])), (a2, .inr (3, [.ref a3])), (a3, .inl (gI g, 32, .inl v1)), (a4, .inl (gJ g, 1, .inr (.inl v2)))]
abbrev rm_L_soldPieces : Room := { frames := 10, cells := 1, slots := 6, locals := 163 }
theorem mw_L_soldPieces_0 : (Cond.classLink RL 13 "java/lang/IllegalArgumentException" : Cond) ∈ wsL_soldPieces := (List.mem_cons_of_mem _ (List.mem_append_left _ (List.mem_append_left _ (List.mem_append_left _ (List.mem_append_left _ (List.mem_of_getElem? (i := 0) rfl))))))
set_option maxHeartbeats 4000000 in
set_option maxRecDepth 100000 in
theorem c_L_soldPieces (l : Launch) (g : Gx) (hst : l.stackTraces = false) (a0 a1 a2 a3 a4 a5 a6 a7 a8 a9 a10 : Nat) (v0 : Int32) (v1 : Nat → Int32) (v2 : Nat → Int64) (p1 : Int32) {post : Int32 → (Nat → Int64) → Prop} (h : P_L_soldPieces post p1 v0 v1 v2) : cm l g yL_soldPieces wsL_soldPieces (rm_L_soldPieces) [.ref a0, .int p1, .ref a4] (W_L_soldPieces g a0 a1 a2 a3 a4 a5 a6 a7 a8 a9 a10 v0 v1 v2) (fun v X1 => ∃ (r : Int32) (uv2 : Nat → Int64), v = some (.int r) ∧ X1 = W_L_soldPieces g a0 a1 a2 a3 a4 a5 a6 a7 a8 a9 a10 v0 v1 uv2 ∧ post r uv2) := by
  refine cmW_of (cc := cL_soldPieces) (nL := 4) (ret := (some .int)) (hh := [(0, 9, 12, 13)]) (by decide +kernel) rfl (Nat.le_of_ble_eq_true rfl) ?_
  intro x hf hl hg hn hi hr tb
  subst hl
  subst hg
  show ww x (W_L_soldPieces (xg x) a0 a1 a2 a3 a4 a5 a6 a7 a8 a9 a10 v0 v1 v2) [(0, .ref a0), (1, .int p1), (2, .ref a4)] 0 0 0 []
  unfold P_L_soldPieces at h
  refine xw_aload_n hf (pc := 0) dL_soldPieces_0 rfl 2 rfl ?_
  refine xw_iconst hf (pc := 1) dL_soldPieces_1 (v := 0) (by decide) ?_
  refine xw_aload_n hf (pc := 2) dL_soldPieces_2 rfl 0 rfl ?_
  refine xw_iload_n hf (pc := 3) dL_soldPieces_3 rfl 1 rfl ?_
  refine xw_callVX hf (pc := 4) (nA := 1) (Xr := [(a4, .inl (gJ (xg x), 1, .inr (.inl v2)))]) (rest := [.int 0, .ref a4]) (T := TX8) (c_X8_soldPieces (xl x) (xg x) hst a0 a1 a2 a3 a5 a6 a7 a8 a9 a10 v0 v1 p1 h) gL_soldPieces_X8_soldPieces (by rfl) rfl rfl (by decide +kernel) ⟨⟨(Nat.le_of_ble_eq_true rfl), (Nat.le_of_ble_eq_true rfl)⟩, (Nat.le_of_ble_eq_true rfl), (Nat.le_of_ble_eq_true rfl)⟩ (Nat.le_of_ble_eq_true rfl) rfl rfl (sb_of [0, 1, 2, 3, 4] rfl rfl) rfl dL_soldPieces_4 (fun v X1 hp => ?_) (fun E2 X1 hp => ?_)
  · obtain ⟨r1, rfl, rfl, h⟩ := hp
    refine xw_X (sb_of [0, 1, 2, 3, 4] rfl rfl) (show ww x (W_L_soldPieces (xg x) a0 a1 a2 a3 a4 a5 a6 a7 a8 a9 a10 v0 v1 v2) [(0, .ref a0), (1, .int p1), (2, .ref a4)] 1 6 7 [.int r1, .int 0, .ref a4] from ?_)
    refine xw_i2l hf (pc := 7) dL_soldPieces_7 ?_
    refine xw_last hf (pc := 8) dL_soldPieces_8 4 rfl h.1 (W_L_soldPieces (xg x) a0 a1 a2 a3 a4 a5 a6 a7 a8 a9 a10 v0 v1 (vp_updL v2 (0 : Int32).toNatClampNeg r1.toInt64)) rfl ?_
    have h := h.2
    refine xw_goto hf (pc := 9) dL_soldPieces_9 (tgt := 15) rfl ?_
    refine xw_iconst hf (pc := 15) dL_soldPieces_15 (v := 0) (by decide) ?_
    exact xw_iret hf (pc := 16) dL_soldPieces_16 hr (Nat.le_of_ble_eq_true rfl) (Nat.le_of_ble_eq_true rfl) ⟨_, _, rfl, rfl, h⟩
  · obtain ⟨rfl, h⟩ := hp
    refine xe_X (sb_of [0, 1, 2, 3, 4] rfl rfl) (show wx x (W_L_soldPieces (xg x) a0 a1 a2 a3 a4 a5 a6 a7 a8 a9 a10 v0 v1 v2) [(0, .ref a0), (1, .int p1), (2, .ref a4)] 1 6 4 E2 [.int 0, .ref a4] from ?_)
    obtain ⟨rfl, h⟩ := h
    refine xw_catchA hf tb rfl (by decide) mw_L_soldPieces_0 ((fav hf).1 _ (List.mem_of_getElem? (i := 0) rfl)) (fun q3 => ?_)
    refine xw_astore_n hf (pc := 12) dL_soldPieces_12 rfl [(3, .ref q3), (0, .ref a0), (1, .int p1), (2, .ref a4)] hn (by decide) rfl ?_
    refine xw_iconst hf (pc := 13) dL_soldPieces_13 (v := 1) (by decide) ?_
    exact xw_iret hf (pc := 14) dL_soldPieces_14 hr (Nat.le_of_ble_eq_true rfl) (Nat.le_of_ble_eq_true rfl) ⟨_, _, rfl, rfl, h⟩
