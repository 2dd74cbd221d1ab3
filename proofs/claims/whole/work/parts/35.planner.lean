abbrev W_X3_fillPlaces (g : Gx) (a0 a1 a2 a3 a4 a5 a6 a7 a8 : Nat) (v0 : Int32) (v1 : Int32) (v2 : Nat → Int32) (v3 : Int32) (v4 : Nat → Int64) (v5 : Int32) (v6 : Nat → Int64) (v7 : Int32) (v8 : Nat → Int64) : va_W := [(a0, .inr (4, [.ref a1, .ref a3, .ref a5, .int v0, .int v1])), (a1, .inr (3, [.ref a2])), (a2, .inl (gI g, 32, .inl v2)), (a3, .inr (7, [.ref a4, .int v3])), (a4, .inl (gJ g, 60, .inr (.inl v4))), (a5, .inr (7, [.ref a6, .int v5])), (a6, .inl (gJ g, 60, .inr (.inl v6))), (a7, .inr (7, [.ref a8, .int v7])), (a8, .inl (gJ g, 60, .inr (.inl v8)))]
abbrev rm_X3_fillPlaces (d : Nat) : Room := { frames := 2 * d + 1, cells := 0, slots := 0, locals := 100 * d + 200 }
abbrev rm_X3_tryWord (d : Nat) : Room := { frames := 2 * d + 2, cells := 0, slots := 0, locals := 100 * d + 250 }
def HFP (l : Launch) (g : Gx) (d : Nat) (PF : FPT) : Prop := ∀ (a0 a1 a2 a3 a4 a5 a6 a7 a8 : Nat) (v0 : Int32) (v1 : Int32) (v2 : Nat → Int32) (v3 : Int32) (v4 : Nat → Int64) (v5 : Int32) (v6 : Nat → Int64) (v7 : Int32) (v8 : Nat → Int64) (p2 p3 p4 : Int32) (post : Int32 → (Nat → Int32) → Int32 → (Nat → Int64) → Int32 → (Nat → Int64) → Prop), PF post p2 p3 p4 v0 v1 v2 v3 v4 v5 v6 v7 v8 → cm l g yX3_fillPlaces wsX3_fillPlaces (rm_X3_fillPlaces d) [.ref a0, .ref a7, .int p2, .int p3, .int p4] (W_X3_fillPlaces g a0 a1 a2 a3 a4 a5 a6 a7 a8 v0 v1 v2 v3 v4 v5 v6 v7 v8) (fun v X1 => ∃ (uv0 : Int32) (uv2 : Nat → Int32) (uv3 : Int32) (uv4 : Nat → Int64) (uv5 : Int32) (uv6 : Nat → Int64), v = none ∧ X1 = W_X3_fillPlaces g a0 a1 a2 a3 a4 a5 a6 a7 a8 uv0 v1 uv2 uv3 uv4 uv5 uv6 v7 v8 ∧ post uv0 uv2 uv3 uv4 uv5 uv6)
theorem mw_X3_fillPlaces_0 : (Cond.fieldLink RX3 42 "AnagramButcher$Planner" "longest" "I" : Cond) ∈ wsX3_fillPlaces := (List.mem_cons_of_mem _ (List.mem_append_left _ (List.mem_append_left _ (List.mem_append_left _ (List.mem_append_left _ (List.mem_of_getElem? (l := wsX3_fillPlaces_r1) (i := 0) rfl))))))
theorem mw_X3_fillPlaces_1 : (Cond.fieldLink RX3 34 "AnagramButcher$Planner" "bestLetters" "I" : Cond) ∈ wsX3_fillPlaces := (List.mem_cons_of_mem _ (List.mem_append_left _ (List.mem_append_left _ (List.mem_append_left _ (List.mem_append_left _ (List.mem_of_getElem? (l := wsX3_fillPlaces_r1) (i := 1) rfl))))))
theorem mi_X3_fillPlaces_X3 : ∀ w ∈ wsX30, w ∈ wsX3_fillPlaces := fun _ h => (List.mem_cons_of_mem _ (List.mem_append_left _ (List.mem_append_left _ (List.mem_append_right _ h))))
abbrev W_X3_tryWord (g : Gx) (a0 a1 a2 a3 a4 a5 a6 a7 a8 : Nat) (v0 : Int32) (v1 : Int32) (v2 : Nat → Int32) (v3 : Int32) (v4 : Nat → Int64) (v5 : Int32) (v6 : Nat → Int64) (v7 : Int32) (v8 : Nat → Int64) : va_W := [(a0, .inr (4, [.ref a1, .ref a3, .ref a5, .int v0, .int v1])), (a1, .inr (3, [.ref a2])), (a2, .inl (gI g, 32, .inl v2)), (a3, .inr (7, [.ref a4, .int v3])), (a4, .inl (gJ g, 60, .inr (.inl v4))), (a5, .inr (7, [.ref a6, .int v5])), (a6, .inl (gJ g, 60, .inr (.inl v6))), (a7, .inr (7, [.ref a8, .int v7])), (a8, .inl (gJ g, 60, .inr (.inl v8)))]
theorem mw_X3_tryWord_0 : (Cond.fieldLink RX3 10 "AnagramButcher$Planner" "left" "LAnagramButcher$Pile;" : Cond) ∈ wsX3_tryWord := (List.mem_cons_of_mem _ (List.mem_append_left _ (List.mem_append_left _ (List.mem_append_left _ (List.mem_append_left _ (List.mem_of_getElem? (l := wsX3_tryWord_r1) (i := 0) rfl))))))
theorem mw_X3_tryWord_1 : (Cond.fieldLink RX3 19 "AnagramButcher$Planner" "chosen" "LAnagramButcher$WordRow;" : Cond) ∈ wsX3_tryWord := (List.mem_cons_of_mem _ (List.mem_append_left _ (List.mem_append_left _ (List.mem_append_left _ (List.mem_append_left _ (List.mem_of_getElem? (l := wsX3_tryWord_r1) (i := 1) rfl))))))
theorem mw_X3_tryWord_2 : (Cond.fieldLink RX3 23 "AnagramButcher$Planner" "best" "LAnagramButcher$WordRow;" : Cond) ∈ wsX3_tryWord := (List.mem_cons_of_mem _ (List.mem_append_left _ (List.mem_append_left _ (List.mem_append_left _ (List.mem_append_left _ (List.mem_of_getElem? (l := wsX3_tryWord_r1) (i := 2) rfl))))))
theorem mw_X3_tryWord_3 : (Cond.fieldLink RX3 34 "AnagramButcher$Planner" "bestLetters" "I" : Cond) ∈ wsX3_tryWord := (List.mem_cons_of_mem _ (List.mem_append_left _ (List.mem_append_left _ (List.mem_append_left _ (List.mem_append_left _ (List.mem_of_getElem? (l := wsX3_tryWord_r1) (i := 3) rfl))))))
theorem mi_X3_tryWord_X3 : ∀ w ∈ wsX30, w ∈ wsX3_tryWord := fun _ h => (List.mem_cons_of_mem _ (List.mem_append_left _ (List.mem_append_left _ (List.mem_append_right _ h))))
set_option maxHeartbeats 4000000 in
set_option maxRecDepth 100000 in
theorem c_X3_tryWord (l : Launch) (g : Gx) (d : Nat) {PF : FPT} (hF : HFP l g d PF) (a0 a1 a2 a3 a4 a5 a6 a7 a8 : Nat) (v0 : Int32) (v1 : Int32) (v2 : Nat → Int32) (v3 : Int32) (v4 : Nat → Int64) (v5 : Int32) (v6 : Nat → Int64) (v7 : Int32) (v8 : Nat → Int64) (p2 : Int32) (p3 : Int32) (p4 : Int32) {post : Int32 → (Nat → Int32) → Int32 → (Nat → Int64) → Int32 → (Nat → Int64) → Prop} (h : P_X3_tryWord PF post p2 p3 p4 v0 v1 v2 v3 v4 v5 v6 v7 v8) : cm l g yX3_tryWord wsX3_tryWord (rm_X3_tryWord d) [.ref a0, .ref a7, .int p2, .int p3, .int p4] (W_X3_tryWord g a0 a1 a2 a3 a4 a5 a6 a7 a8 v0 v1 v2 v3 v4 v5 v6 v7 v8) (fun v X1 => ∃ (uv0 : Int32) (uv2 : Nat → Int32) (uv3 : Int32) (uv4 : Nat → Int64) (uv5 : Int32) (uv6 : Nat → Int64), v = none ∧ X1 = W_X3_tryWord g a0 a1 a2 a3 a4 a5 a6 a7 a8 uv0 v1 uv2 uv3 uv4 uv5 uv6 v7 v8 ∧ post uv0 uv2 uv3 uv4 uv5 uv6) := by
  refine cm_of (cc := cX3_tryWord) (nL := 7) (ret := none) (by decide +kernel) rfl (Nat.le_of_ble_eq_true rfl) ?_
  intro x hf hl hg hn hi hr
  subst hl
  subst hg
  show ww x (W_X3_tryWord (xg x) a0 a1 a2 a3 a4 a5 a6 a7 a8 v0 v1 v2 v3 v4 v5 v6 v7 v8) [(0, .ref a0), (1, .ref a7), (2, .int p2), (3, .int p3), (4, .int p4)] 0 0 0 []
  unfold P_X3_tryWord at h
  refine xw_aload_n hf (pc := 0) dX3_tryWord_0 rfl 1 rfl ?_
  refine xw_iload_n hf (pc := 1) dX3_tryWord_1 rfl 3 rfl ?_
  refine xw_callV hf (pc := 2) (nA := 1) (Xr := [(a0, .inr (4, [.ref a1, .ref a3, .ref a5, .int v0, .int v1])), (a1, .inr (3, [.ref a2])), (a2, .inl (gI (xg x), 32, .inl v2)), (a3, .inr (7, [.ref a4, .int v3])), (a4, .inl (gJ (xg x), 60, .inr (.inl v4))), (a5, .inr (7, [.ref a6, .int v5])), (a6, .inl (gJ (xg x), 60, .inr (.inl v6)))]) (rest := []) (T := TX6) (c_X6_word (xl x) (xg x) a7 a8 v7 v8 p3 h) gX3_tryWord_X6_word (by rfl) rfl rfl (by decide +kernel) ⟨⟨(by dsimp only [rm_X3_fillPlaces, rm_X3_tryWord, rm_X2_take, rm_X2_put, rm_X6_append, rm_X6_word, rm_X6_size, rm_X6_copy, rm_X6_delete, rm_X7_lengthOf]; omega), (by dsimp only [rm_X3_fillPlaces, rm_X3_tryWord, rm_X2_take, rm_X2_put, rm_X6_append, rm_X6_word, rm_X6_size, rm_X6_copy, rm_X6_delete, rm_X7_lengthOf]; omega)⟩, (Nat.le_of_ble_eq_true rfl), (Nat.le_of_ble_eq_true rfl)⟩ (Nat.le_of_ble_eq_true rfl) rfl rfl (sb_of [7, 8, 0, 1, 2, 3, 4, 5, 6] rfl rfl) rfl dX3_tryWord_2 (fun v X1 hp => ?_)
  obtain ⟨r1, rfl, rfl, h⟩ := hp
  refine xw_X (sb_of [2, 3, 4, 5, 6, 7, 8, 0, 1] rfl rfl) (show ww x (W_X3_tryWord (xg x) a0 a1 a2 a3 a4 a5 a6 a7 a8 v0 v1 v2 v3 v4 v5 v6 v7 v8) [(0, .ref a0), (1, .ref a7), (2, .int p2), (3, .int p3), (4, .int p4)] 0 0 5 [.long r1] from ?_)
  refine xw_lstore hf (pc := 5) dX3_tryWord_5 [(5, .long r1), (0, .ref a0), (1, .ref a7), (2, .int p2), (3, .int p3), (4, .int p4)] hn (by decide) rfl ?_
  refine xw_aload_n hf (pc := 7) dX3_tryWord_7 rfl 1 rfl ?_
  refine xw_get hf (pc := 8) dX3_tryWord_8 (T := TX3) mi_X3_tryWord_X3 rfl 0 rfl 0 (by decide) rfl mw_X3_tryWord_0 rfl ?_
  refine xw_lload hf (pc := 11) dX3_tryWord_11 0 rfl ?_
  refine xw_callV hf (pc := 13) (nA := 1) (Xr := [(a0, .inr (4, [.ref a1, .ref a3, .ref a5, .int v0, .int v1])), (a3, .inr (7, [.ref a4, .int v3])), (a4, .inl (gJ (xg x), 60, .inr (.inl v4))), (a5, .inr (7, [.ref a6, .int v5])), (a6, .inl (gJ (xg x), 60, .inr (.inl v6))), (a7, .inr (7, [.ref a8, .int v7])), (a8, .inl (gJ (xg x), 60, .inr (.inl v8)))]) (rest := []) (T := TX2) (c_X2_take (xl x) (xg x) a1 a2 v2 r1 h) gX3_tryWord_X2_take (by rfl) rfl rfl (by decide +kernel) ⟨⟨(by dsimp only [rm_X3_fillPlaces, rm_X3_tryWord, rm_X2_take, rm_X2_put, rm_X6_append, rm_X6_word, rm_X6_size, rm_X6_copy, rm_X6_delete, rm_X7_lengthOf]; omega), (by dsimp only [rm_X3_fillPlaces, rm_X3_tryWord, rm_X2_take, rm_X2_put, rm_X6_append, rm_X6_word, rm_X6_size, rm_X6_copy, rm_X6_delete, rm_X7_lengthOf]; omega)⟩, (Nat.le_of_ble_eq_true rfl), (Nat.le_of_ble_eq_true rfl)⟩ (Nat.le_of_ble_eq_true rfl) rfl rfl (sb_of [1, 2, 0, 3, 4, 5, 6, 7, 8] rfl rfl) rfl dX3_tryWord_13 (fun v X1 hp => ?_)
  obtain ⟨r2, w3, rfl, rfl, h⟩ := hp
  refine xw_X (sb_of [2, 0, 1, 3, 4, 5, 6, 7, 8] rfl rfl) (show ww x (W_X3_tryWord (xg x) a0 a1 a2 a3 a4 a5 a6 a7 a8 v0 v1 w3 v3 v4 v5 v6 v7 v8) [(5, .long r1), (0, .ref a0), (1, .ref a7), (2, .int p2), (3, .int p3), (4, .int p4)] 0 0 16 [.int r2] from ?_)
  refine xw_if_ne hf (pc := 16) dX3_tryWord_16 (c := r2 = 0) Iff.rfl (tgt := 20) rfl ⟨fun c => ?_, fun c => ?_⟩
  · have h := h.1 c
    exact xw_vret hf (pc := 19) dX3_tryWord_19 hr (Nat.le_of_ble_eq_true rfl) (Nat.le_of_ble_eq_true rfl) ⟨_, _, _, _, _, _, rfl, rfl, h⟩
  · have h := h.2 c
    refine xw_aload_n hf (pc := 20) dX3_tryWord_20 rfl 1 rfl ?_
    refine xw_get hf (pc := 21) dX3_tryWord_21 (T := TX3) mi_X3_tryWord_X3 rfl 0 rfl 1 (by decide) rfl mw_X3_tryWord_1 rfl ?_
    refine xw_lload hf (pc := 24) dX3_tryWord_24 0 rfl ?_
    refine xw_callV hf (pc := 26) (nA := 1) (Xr := [(a0, .inr (4, [.ref a1, .ref a3, .ref a5, .int v0, .int v1])), (a1, .inr (3, [.ref a2])), (a2, .inl (gI (xg x), 32, .inl w3)), (a5, .inr (7, [.ref a6, .int v5])), (a6, .inl (gJ (xg x), 60, .inr (.inl v6))), (a7, .inr (7, [.ref a8, .int v7])), (a8, .inl (gJ (xg x), 60, .inr (.inl v8)))]) (rest := []) (T := TX6) (c_X6_append (xl x) (xg x) a3 a4 v3 v4 r1 h) gX3_tryWord_X6_append (by rfl) rfl rfl (by decide +kernel) ⟨⟨(by dsimp only [rm_X3_fillPlaces, rm_X3_tryWord, rm_X2_take, rm_X2_put, rm_X6_append, rm_X6_word, rm_X6_size, rm_X6_copy, rm_X6_delete, rm_X7_lengthOf]; omega), (by dsimp only [rm_X3_fillPlaces, rm_X3_tryWord, rm_X2_take, rm_X2_put, rm_X6_append, rm_X6_word, rm_X6_size, rm_X6_copy, rm_X6_delete, rm_X7_lengthOf]; omega)⟩, (Nat.le_of_ble_eq_true rfl), (Nat.le_of_ble_eq_true rfl)⟩ (Nat.le_of_ble_eq_true rfl) rfl rfl (sb_of [3, 4, 0, 1, 2, 5, 6, 7, 8] rfl rfl) rfl dX3_tryWord_26 (fun v X1 hp => ?_)
    obtain ⟨w5, w6, rfl, rfl, h⟩ := hp
    refine xw_X (sb_of [2, 3, 4, 0, 1, 5, 6, 7, 8] rfl rfl) (show ww x (W_X3_tryWord (xg x) a0 a1 a2 a3 a4 a5 a6 a7 a8 v0 v1 w3 w5 w6 v5 v6 v7 v8) [(5, .long r1), (0, .ref a0), (1, .ref a7), (2, .int p2), (3, .int p3), (4, .int p4)] 0 0 29 [] from ?_)
    refine xw_iload_n hf (pc := 29) dX3_tryWord_29 rfl 3 rfl ?_
    refine xw_iconst hf (pc := 30) dX3_tryWord_30 (v := 1) (by decide) ?_
    refine xw_icmp_le hf (pc := 31) dX3_tryWord_31 (tgt := 48) rfl ⟨fun c => ?_, fun c => ?_⟩
    · have h := h.1 c
      refine xw_aload_n hf (pc := 48) dX3_tryWord_48 rfl 1 rfl ?_
      refine xw_get hf (pc := 49) dX3_tryWord_49 (T := TX3) mi_X3_tryWord_X3 rfl 0 rfl 2 (by decide) rfl mw_X3_tryWord_2 rfl ?_
      refine xw_aload_n hf (pc := 52) dX3_tryWord_52 rfl 1 rfl ?_
      refine xw_get hf (pc := 53) dX3_tryWord_53 (T := TX3) mi_X3_tryWord_X3 rfl 0 rfl 1 (by decide) rfl mw_X3_tryWord_1 rfl ?_
      refine xw_callV hf (pc := 56) (nA := 1) (Xr := [(a0, .inr (4, [.ref a1, .ref a3, .ref a5, .int v0, .int v1])), (a1, .inr (3, [.ref a2])), (a2, .inl (gI (xg x), 32, .inl w3)), (a7, .inr (7, [.ref a8, .int v7])), (a8, .inl (gJ (xg x), 60, .inr (.inl v8)))]) (rest := []) (T := TX6) (c_X6_copy (xl x) (xg x) a5 a6 a3 a4 v5 v6 w5 w6 h) gX3_tryWord_X6_copy (by rfl) rfl rfl (by decide +kernel) ⟨⟨(by dsimp only [rm_X3_fillPlaces, rm_X3_tryWord, rm_X2_take, rm_X2_put, rm_X6_append, rm_X6_word, rm_X6_size, rm_X6_copy, rm_X6_delete, rm_X7_lengthOf]; omega), (by dsimp only [rm_X3_fillPlaces, rm_X3_tryWord, rm_X2_take, rm_X2_put, rm_X6_append, rm_X6_word, rm_X6_size, rm_X6_copy, rm_X6_delete, rm_X7_lengthOf]; omega)⟩, (Nat.le_of_ble_eq_true rfl), (Nat.le_of_ble_eq_true rfl)⟩ (Nat.le_of_ble_eq_true rfl) rfl rfl (sb_of [5, 6, 3, 4, 0, 1, 2, 7, 8] rfl rfl) rfl dX3_tryWord_56 (fun v X1 hp => ?_)
      obtain ⟨w8, w9, rfl, rfl, h⟩ := hp
      refine xw_X (sb_of [4, 5, 6, 2, 3, 0, 1, 7, 8] rfl rfl) (show ww x (W_X3_tryWord (xg x) a0 a1 a2 a3 a4 a5 a6 a7 a8 v0 v1 w3 w5 w6 w8 w9 v7 v8) [(5, .long r1), (0, .ref a0), (1, .ref a7), (2, .int p2), (3, .int p3), (4, .int p4)] 0 0 59 [] from ?_)
      refine xw_aload_n hf (pc := 59) dX3_tryWord_59 rfl 1 rfl ?_
      refine xw_iload hf (pc := 60) dX3_tryWord_60 5 rfl ?_
      refine xw_put hf (pc := 62) dX3_tryWord_62 (T := TX3) mi_X3_tryWord_X3 rfl tyX3_ok nmX3 0 rfl 3 (by decide) rfl mw_X3_tryWord_3 rfl rfl rfl rfl (Nat.le_of_ble_eq_true rfl) (W_X3_tryWord (xg x) a0 a1 a2 a3 a4 a5 a6 a7 a8 p4 v1 w3 w5 w6 w8 w9 v7 v8) rfl ?_
      refine xw_aload_n hf (pc := 65) dX3_tryWord_65 rfl 1 rfl ?_
      refine xw_get hf (pc := 66) dX3_tryWord_66 (T := TX3) mi_X3_tryWord_X3 rfl 0 rfl 1 (by decide) rfl mw_X3_tryWord_1 rfl ?_
      refine xw_aload_n hf (pc := 69) dX3_tryWord_69 rfl 1 rfl ?_
      refine xw_get hf (pc := 70) dX3_tryWord_70 (T := TX3) mi_X3_tryWord_X3 rfl 0 rfl 1 (by decide) rfl mw_X3_tryWord_1 rfl ?_
      refine xw_callV hf (pc := 73) (nA := 0) (Xr := [(a0, .inr (4, [.ref a1, .ref a3, .ref a5, .int p4, .int v1])), (a1, .inr (3, [.ref a2])), (a2, .inl (gI (xg x), 32, .inl w3)), (a4, .inl (gJ (xg x), 60, .inr (.inl w6))), (a5, .inr (7, [.ref a6, .int w8])), (a6, .inl (gJ (xg x), 60, .inr (.inl w9))), (a7, .inr (7, [.ref a8, .int v7])), (a8, .inl (gJ (xg x), 60, .inr (.inl v8)))]) (rest := [.ref a3]) (T := TX6) (c_X6_size (xl x) (xg x) a3 a4 w5 h) gX3_tryWord_X6_size (by rfl) rfl rfl (by decide +kernel) ⟨⟨(by dsimp only [rm_X3_fillPlaces, rm_X3_tryWord, rm_X2_take, rm_X2_put, rm_X6_append, rm_X6_word, rm_X6_size, rm_X6_copy, rm_X6_delete, rm_X7_lengthOf]; omega), (by dsimp only [rm_X3_fillPlaces, rm_X3_tryWord, rm_X2_take, rm_X2_put, rm_X6_append, rm_X6_word, rm_X6_size, rm_X6_copy, rm_X6_delete, rm_X7_lengthOf]; omega)⟩, (Nat.le_of_ble_eq_true rfl), (Nat.le_of_ble_eq_true rfl)⟩ (Nat.le_of_ble_eq_true rfl) rfl rfl (sb_of [3, 0, 1, 2, 4, 5, 6, 7, 8] rfl rfl) rfl dX3_tryWord_73 (fun v X1 hp => ?_)
      obtain ⟨r10, rfl, rfl, h⟩ := hp
      refine xw_X (sb_of [1, 2, 3, 0, 4, 5, 6, 7, 8] rfl rfl) (show ww x (W_X3_tryWord (xg x) a0 a1 a2 a3 a4 a5 a6 a7 a8 p4 v1 w3 w5 w6 w8 w9 v7 v8) [(5, .long r1), (0, .ref a0), (1, .ref a7), (2, .int p2), (3, .int p3), (4, .int p4)] 0 0 76 [.int r10, .ref a3] from ?_)
      refine xw_iconst hf (pc := 76) dX3_tryWord_76 (v := 1) (by decide) ?_
      refine xw_isub hf (pc := 77) dX3_tryWord_77 ?_
      refine xw_callV hf (pc := 78) (nA := 1) (Xr := [(a0, .inr (4, [.ref a1, .ref a3, .ref a5, .int p4, .int v1])), (a1, .inr (3, [.ref a2])), (a2, .inl (gI (xg x), 32, .inl w3)), (a5, .inr (7, [.ref a6, .int w8])), (a6, .inl (gJ (xg x), 60, .inr (.inl w9))), (a7, .inr (7, [.ref a8, .int v7])), (a8, .inl (gJ (xg x), 60, .inr (.inl v8)))]) (rest := []) (T := TX6) (c_X6_delete (xl x) (xg x) a3 a4 w5 w6 (r10 - 1) h) gX3_tryWord_X6_delete (by rfl) rfl rfl (by decide +kernel) ⟨⟨(by dsimp only [rm_X3_fillPlaces, rm_X3_tryWord, rm_X2_take, rm_X2_put, rm_X6_append, rm_X6_word, rm_X6_size, rm_X6_copy, rm_X6_delete, rm_X7_lengthOf]; omega), (by dsimp only [rm_X3_fillPlaces, rm_X3_tryWord, rm_X2_take, rm_X2_put, rm_X6_append, rm_X6_word, rm_X6_size, rm_X6_copy, rm_X6_delete, rm_X7_lengthOf]; omega)⟩, (Nat.le_of_ble_eq_true rfl), (Nat.le_of_ble_eq_true rfl)⟩ (Nat.le_of_ble_eq_true rfl) rfl rfl (sb_of [3, 4, 0, 1, 2, 5, 6, 7, 8] rfl rfl) rfl dX3_tryWord_78 (fun v X1 hp => ?_)
      obtain ⟨w12, w13, rfl, rfl, h⟩ := hp
      refine xw_X (sb_of [2, 3, 4, 0, 1, 5, 6, 7, 8] rfl rfl) (show ww x (W_X3_tryWord (xg x) a0 a1 a2 a3 a4 a5 a6 a7 a8 p4 v1 w3 w12 w13 w8 w9 v7 v8) [(5, .long r1), (0, .ref a0), (1, .ref a7), (2, .int p2), (3, .int p3), (4, .int p4)] 0 0 81 [] from ?_)
      refine xw_aload_n hf (pc := 81) dX3_tryWord_81 rfl 1 rfl ?_
      refine xw_get hf (pc := 82) dX3_tryWord_82 (T := TX3) mi_X3_tryWord_X3 rfl 0 rfl 0 (by decide) rfl mw_X3_tryWord_0 rfl ?_
      refine xw_lload hf (pc := 85) dX3_tryWord_85 0 rfl ?_
      refine xw_iconst hf (pc := 87) dX3_tryWord_87 (v := 1) (by decide) ?_
      refine xw_callV hf (pc := 88) (nA := 2) (Xr := [(a0, .inr (4, [.ref a1, .ref a3, .ref a5, .int p4, .int v1])), (a3, .inr (7, [.ref a4, .int w12])), (a4, .inl (gJ (xg x), 60, .inr (.inl w13))), (a5, .inr (7, [.ref a6, .int w8])), (a6, .inl (gJ (xg x), 60, .inr (.inl w9))), (a7, .inr (7, [.ref a8, .int v7])), (a8, .inl (gJ (xg x), 60, .inr (.inl v8)))]) (rest := []) (T := TX2) (c_X2_put (xl x) (xg x) a1 a2 w3 r1 1 h) gX3_tryWord_X2_put (by rfl) rfl rfl (by decide +kernel) ⟨⟨(by dsimp only [rm_X3_fillPlaces, rm_X3_tryWord, rm_X2_take, rm_X2_put, rm_X6_append, rm_X6_word, rm_X6_size, rm_X6_copy, rm_X6_delete, rm_X7_lengthOf]; omega), (by dsimp only [rm_X3_fillPlaces, rm_X3_tryWord, rm_X2_take, rm_X2_put, rm_X6_append, rm_X6_word, rm_X6_size, rm_X6_copy, rm_X6_delete, rm_X7_lengthOf]; omega)⟩, (Nat.le_of_ble_eq_true rfl), (Nat.le_of_ble_eq_true rfl)⟩ (Nat.le_of_ble_eq_true rfl) rfl rfl (sb_of [1, 2, 0, 3, 4, 5, 6, 7, 8] rfl rfl) rfl dX3_tryWord_88 (fun v X1 hp => ?_)
      obtain ⟨w15, rfl, rfl, h⟩ := hp
      refine xw_X (sb_of [2, 0, 1, 3, 4, 5, 6, 7, 8] rfl rfl) (show ww x (W_X3_tryWord (xg x) a0 a1 a2 a3 a4 a5 a6 a7 a8 p4 v1 w15 w12 w13 w8 w9 v7 v8) [(5, .long r1), (0, .ref a0), (1, .ref a7), (2, .int p2), (3, .int p3), (4, .int p4)] 0 0 91 [] from ?_)
      exact xw_vret hf (pc := 91) dX3_tryWord_91 hr (Nat.le_of_ble_eq_true rfl) (Nat.le_of_ble_eq_true rfl) ⟨_, _, _, _, _, _, rfl, rfl, h⟩
    · have h := h.2 c
      refine xw_aload_n hf (pc := 34) dX3_tryWord_34 rfl 1 rfl ?_
      refine xw_aload_n hf (pc := 35) dX3_tryWord_35 rfl 2 rfl ?_
      refine xw_iload_n hf (pc := 36) dX3_tryWord_36 rfl 3 rfl ?_
      refine xw_iconst hf (pc := 37) dX3_tryWord_37 (v := 1) (by decide) ?_
      refine xw_isub hf (pc := 38) dX3_tryWord_38 ?_
      refine xw_iload_n hf (pc := 39) dX3_tryWord_39 rfl 4 rfl ?_
      refine xw_iload hf (pc := 40) dX3_tryWord_40 5 rfl ?_
      refine xw_callV hf (pc := 42) (nA := 4) (Xr := []) (rest := []) (T := TX3) (hF a0 a1 a2 a3 a4 a5 a6 a7 a8 v0 v1 w3 w5 w6 v5 v6 v7 v8 (p2 - 1) p3 p4 _ h) gX3_tryWord_X3_fillPlaces (by rfl) rfl rfl (by decide +kernel) ⟨⟨(by dsimp only [rm_X3_fillPlaces, rm_X3_tryWord, rm_X2_take, rm_X2_put, rm_X6_append, rm_X6_word, rm_X6_size, rm_X6_copy, rm_X6_delete, rm_X7_lengthOf]; omega), (by dsimp only [rm_X3_fillPlaces, rm_X3_tryWord, rm_X2_take, rm_X2_put, rm_X6_append, rm_X6_word, rm_X6_size, rm_X6_copy, rm_X6_delete, rm_X7_lengthOf]; omega)⟩, (Nat.le_of_ble_eq_true rfl), (Nat.le_of_ble_eq_true rfl)⟩ (Nat.le_of_ble_eq_true rfl) rfl rfl (sb_of [0, 1, 2, 3, 4, 5, 6, 7, 8] rfl rfl) rfl dX3_tryWord_42 (fun v X1 hp => ?_)
      obtain ⟨w17, w18, w19, w20, w21, w22, rfl, rfl, h⟩ := hp
      refine xw_X (sb_of [0, 1, 2, 3, 4, 5, 6, 7, 8] rfl rfl) (show ww x (W_X3_tryWord (xg x) a0 a1 a2 a3 a4 a5 a6 a7 a8 w17 v1 w18 w19 w20 w21 w22 v7 v8) [(5, .long r1), (0, .ref a0), (1, .ref a7), (2, .int p2), (3, .int p3), (4, .int p4)] 0 0 45 [] from ?_)
      refine xw_goto hf (pc := 45) dX3_tryWord_45 (tgt := 65) rfl ?_
      refine xw_aload_n hf (pc := 65) dX3_tryWord_65 rfl 1 rfl ?_
      refine xw_get hf (pc := 66) dX3_tryWord_66 (T := TX3) mi_X3_tryWord_X3 rfl 0 rfl 1 (by decide) rfl mw_X3_tryWord_1 rfl ?_
      refine xw_aload_n hf (pc := 69) dX3_tryWord_69 rfl 1 rfl ?_
      refine xw_get hf (pc := 70) dX3_tryWord_70 (T := TX3) mi_X3_tryWord_X3 rfl 0 rfl 1 (by decide) rfl mw_X3_tryWord_1 rfl ?_
      refine xw_callV hf (pc := 73) (nA := 0) (Xr := [(a0, .inr (4, [.ref a1, .ref a3, .ref a5, .int w17, .int v1])), (a1, .inr (3, [.ref a2])), (a2, .inl (gI (xg x), 32, .inl w18)), (a4, .inl (gJ (xg x), 60, .inr (.inl w20))), (a5, .inr (7, [.ref a6, .int w21])), (a6, .inl (gJ (xg x), 60, .inr (.inl w22))), (a7, .inr (7, [.ref a8, .int v7])), (a8, .inl (gJ (xg x), 60, .inr (.inl v8)))]) (rest := [.ref a3]) (T := TX6) (c_X6_size (xl x) (xg x) a3 a4 w19 h) gX3_tryWord_X6_size (by rfl) rfl rfl (by decide +kernel) ⟨⟨(by dsimp only [rm_X3_fillPlaces, rm_X3_tryWord, rm_X2_take, rm_X2_put, rm_X6_append, rm_X6_word, rm_X6_size, rm_X6_copy, rm_X6_delete, rm_X7_lengthOf]; omega), (by dsimp only [rm_X3_fillPlaces, rm_X3_tryWord, rm_X2_take, rm_X2_put, rm_X6_append, rm_X6_word, rm_X6_size, rm_X6_copy, rm_X6_delete, rm_X7_lengthOf]; omega)⟩, (Nat.le_of_ble_eq_true rfl), (Nat.le_of_ble_eq_true rfl)⟩ (Nat.le_of_ble_eq_true rfl) rfl rfl (sb_of [3, 0, 1, 2, 4, 5, 6, 7, 8] rfl rfl) rfl dX3_tryWord_73 (fun v X1 hp => ?_)
      obtain ⟨r23, rfl, rfl, h⟩ := hp
      refine xw_X (sb_of [1, 2, 3, 0, 4, 5, 6, 7, 8] rfl rfl) (show ww x (W_X3_tryWord (xg x) a0 a1 a2 a3 a4 a5 a6 a7 a8 w17 v1 w18 w19 w20 w21 w22 v7 v8) [(5, .long r1), (0, .ref a0), (1, .ref a7), (2, .int p2), (3, .int p3), (4, .int p4)] 0 0 76 [.int r23, .ref a3] from ?_)
      refine xw_iconst hf (pc := 76) dX3_tryWord_76 (v := 1) (by decide) ?_
      refine xw_isub hf (pc := 77) dX3_tryWord_77 ?_
      refine xw_callV hf (pc := 78) (nA := 1) (Xr := [(a0, .inr (4, [.ref a1, .ref a3, .ref a5, .int w17, .int v1])), (a1, .inr (3, [.ref a2])), (a2, .inl (gI (xg x), 32, .inl w18)), (a5, .inr (7, [.ref a6, .int w21])), (a6, .inl (gJ (xg x), 60, .inr (.inl w22))), (a7, .inr (7, [.ref a8, .int v7])), (a8, .inl (gJ (xg x), 60, .inr (.inl v8)))]) (rest := []) (T := TX6) (c_X6_delete (xl x) (xg x) a3 a4 w19 w20 (r23 - 1) h) gX3_tryWord_X6_delete (by rfl) rfl rfl (by decide +kernel) ⟨⟨(by dsimp only [rm_X3_fillPlaces, rm_X3_tryWord, rm_X2_take, rm_X2_put, rm_X6_append, rm_X6_word, rm_X6_size, rm_X6_copy, rm_X6_delete, rm_X7_lengthOf]; omega), (by dsimp only [rm_X3_fillPlaces, rm_X3_tryWord, rm_X2_take, rm_X2_put, rm_X6_append, rm_X6_word, rm_X6_size, rm_X6_copy, rm_X6_delete, rm_X7_lengthOf]; omega)⟩, (Nat.le_of_ble_eq_true rfl), (Nat.le_of_ble_eq_true rfl)⟩ (Nat.le_of_ble_eq_true rfl) rfl rfl (sb_of [3, 4, 0, 1, 2, 5, 6, 7, 8] rfl rfl) rfl dX3_tryWord_78 (fun v X1 hp => ?_)
      obtain ⟨w25, w26, rfl, rfl, h⟩ := hp
      refine xw_X (sb_of [2, 3, 4, 0, 1, 5, 6, 7, 8] rfl rfl) (show ww x (W_X3_tryWord (xg x) a0 a1 a2 a3 a4 a5 a6 a7 a8 w17 v1 w18 w25 w26 w21 w22 v7 v8) [(5, .long r1), (0, .ref a0), (1, .ref a7), (2, .int p2), (3, .int p3), (4, .int p4)] 0 0 81 [] from ?_)
      refine xw_aload_n hf (pc := 81) dX3_tryWord_81 rfl 1 rfl ?_
      refine xw_get hf (pc := 82) dX3_tryWord_82 (T := TX3) mi_X3_tryWord_X3 rfl 0 rfl 0 (by decide) rfl mw_X3_tryWord_0 rfl ?_
      refine xw_lload hf (pc := 85) dX3_tryWord_85 0 rfl ?_
      refine xw_iconst hf (pc := 87) dX3_tryWord_87 (v := 1) (by decide) ?_
      refine xw_callV hf (pc := 88) (nA := 2) (Xr := [(a0, .inr (4, [.ref a1, .ref a3, .ref a5, .int w17, .int v1])), (a3, .inr (7, [.ref a4, .int w25])), (a4, .inl (gJ (xg x), 60, .inr (.inl w26))), (a5, .inr (7, [.ref a6, .int w21])), (a6, .inl (gJ (xg x), 60, .inr (.inl w22))), (a7, .inr (7, [.ref a8, .int v7])), (a8, .inl (gJ (xg x), 60, .inr (.inl v8)))]) (rest := []) (T := TX2) (c_X2_put (xl x) (xg x) a1 a2 w18 r1 1 h) gX3_tryWord_X2_put (by rfl) rfl rfl (by decide +kernel) ⟨⟨(by dsimp only [rm_X3_fillPlaces, rm_X3_tryWord, rm_X2_take, rm_X2_put, rm_X6_append, rm_X6_word, rm_X6_size, rm_X6_copy, rm_X6_delete, rm_X7_lengthOf]; omega), (by dsimp only [rm_X3_fillPlaces, rm_X3_tryWord, rm_X2_take, rm_X2_put, rm_X6_append, rm_X6_word, rm_X6_size, rm_X6_copy, rm_X6_delete, rm_X7_lengthOf]; omega)⟩, (Nat.le_of_ble_eq_true rfl), (Nat.le_of_ble_eq_true rfl)⟩ (Nat.le_of_ble_eq_true rfl) rfl rfl (sb_of [1, 2, 0, 3, 4, 5, 6, 7, 8] rfl rfl) rfl dX3_tryWord_88 (fun v X1 hp => ?_)
      obtain ⟨w28, rfl, rfl, h⟩ := hp
      refine xw_X (sb_of [2, 0, 1, 3, 4, 5, 6, 7, 8] rfl rfl) (show ww x (W_X3_tryWord (xg x) a0 a1 a2 a3 a4 a5 a6 a7 a8 w17 v1 w28 w25 w26 w21 w22 v7 v8) [(5, .long r1), (0, .ref a0), (1, .ref a7), (2, .int p2), (3, .int p3), (4, .int p4)] 0 0 91 [] from ?_)
      exact xw_vret hf (pc := 91) dX3_tryWord_91 hr (Nat.le_of_ble_eq_true rfl) (Nat.le_of_ble_eq_true rfl) ⟨_, _, _, _, _, _, rfl, rfl, h⟩
set_option maxHeartbeats 4000000 in
set_option maxRecDepth 100000 in
theorem w_X3_fillPlaces_L14 {x : Cx} {d : Nat} {PF : FPT} (hF : HFP (xl x) (xg x) d PF) (hf : fx x (rm_X3_fillPlaces (d + 1)) RX3 cX3_fillPlaces wsX3_fillPlaces) (hn : xn x = 8) {k0 n0 : Nat} (hk : k0 ≤ (rm_X3_fillPlaces (d + 1)).cells ∧ n0 ≤ (rm_X3_fillPlaces (d + 1)).slots) (a0 a1 a2 a3 a4 a5 a6 a7 a8 : Nat) (z2 : Int32) (z4 : Int32) (v1 : Int32) (v7 : Int32) (v8 : Nat → Int64) {K75 : Int32 → (Nat → Int32) → Int32 → (Nat → Int64) → Int32 → (Nat → Int64) → Prop}
    (n : Nat) (z5 : Int32) (v0 : Int32) (v2 : Nat → Int32) (v3 : Int32) (v4 : Nat → Int64) (v5 : Int32) (v6 : Nat → Int64) (h : P_X3_fillPlaces_L14 PF z2 z4 v1 v7 v8 K75 n z5 v0 v2 v3 v4 v5 v6)
    (hK75 : ∀ (uv0 : Int32), ∀ (uv2 : Nat → Int32), ∀ (uv3 : Int32), ∀ (uv4 : Nat → Int64), ∀ (uv5 : Int32), ∀ (uv6 : Nat → Int64), K75 uv0 uv2 uv3 uv4 uv5 uv6 → ww x (W_X3_fillPlaces (xg x) a0 a1 a2 a3 a4 a5 a6 a7 a8 uv0 v1 uv2 uv3 uv4 uv5 uv6 v7 v8) [] k0 n0 75 []) :
    ww x (W_X3_fillPlaces (xg x) a0 a1 a2 a3 a4 a5 a6 a7 a8 v0 v1 v2 v3 v4 v5 v6 v7 v8) [(0, .ref a0), (1, .ref a7), (2, .int z2), (4, .int z4), (5, .int z5)] k0 n0 14 [] := by
  induction n generalizing z5 v0 v2 v3 v4 v5 v6 with
  | zero => exact h.elim
  | succ n ih =>
    unfold P_X3_fillPlaces_L14 at h
    refine xw_iload hf (pc := 14) dX3_fillPlaces_14 4 rfl ?_
    refine xw_aload_n hf (pc := 16) dX3_fillPlaces_16 rfl 1 rfl ?_
    refine xw_callV hf (pc := 17) (nA := 0) (Xr := [(a0, .inr (4, [.ref a1, .ref a3, .ref a5, .int v0, .int v1])), (a1, .inr (3, [.ref a2])), (a2, .inl (gI (xg x), 32, .inl v2)), (a3, .inr (7, [.ref a4, .int v3])), (a4, .inl (gJ (xg x), 60, .inr (.inl v4))), (a5, .inr (7, [.ref a6, .int v5])), (a6, .inl (gJ (xg x), 60, .inr (.inl v6))), (a8, .inl (gJ (xg x), 60, .inr (.inl v8)))]) (rest := [.int z5]) (T := TX6) (c_X6_size (xl x) (xg x) a7 a8 v7 h) gX3_fillPlaces_X6_size (by rfl) rfl rfl (by decide +kernel) ⟨⟨(by dsimp only [rm_X3_fillPlaces, rm_X3_tryWord, rm_X2_take, rm_X2_put, rm_X6_append, rm_X6_word, rm_X6_size, rm_X6_copy, rm_X6_delete, rm_X7_lengthOf]; omega), (by dsimp only [rm_X3_fillPlaces, rm_X3_tryWord, rm_X2_take, rm_X2_put, rm_X6_append, rm_X6_word, rm_X6_size, rm_X6_copy, rm_X6_delete, rm_X7_lengthOf]; omega)⟩, hk.1, hk.2⟩ (Nat.le_of_ble_eq_true rfl) rfl rfl (sb_of [7, 0, 1, 2, 3, 4, 5, 6, 8] rfl rfl) rfl dX3_fillPlaces_17 (fun v X1 hp => ?_)
    obtain ⟨r1, rfl, rfl, h⟩ := hp
    refine xw_X (sb_of [1, 2, 3, 4, 5, 6, 7, 0, 8] rfl rfl) (show ww x (W_X3_fillPlaces (xg x) a0 a1 a2 a3 a4 a5 a6 a7 a8 v0 v1 v2 v3 v4 v5 v6 v7 v8) [(0, .ref a0), (1, .ref a7), (2, .int z2), (4, .int z4), (5, .int z5)] k0 n0 20 [.int r1, .int z5] from ?_)
    refine xw_icmp_ge hf (pc := 20) dX3_fillPlaces_20 (tgt := 75) rfl ⟨fun c => ?_, fun c => ?_⟩
    · have h := h.1 c
      refine xw_L [] rfl ?_
      exact hK75 _ _ _ _ _ _ h
    · have h := h.2 c
      refine xw_iload hf (pc := 23) dX3_fillPlaces_23 3 rfl ?_
      refine xw_aload_n hf (pc := 25) dX3_fillPlaces_25 rfl 1 rfl ?_
      refine xw_iload hf (pc := 26) dX3_fillPlaces_26 4 rfl ?_
      refine xw_callV hf (pc := 28) (nA := 1) (Xr := [(a0, .inr (4, [.ref a1, .ref a3, .ref a5, .int v0, .int v1])), (a1, .inr (3, [.ref a2])), (a2, .inl (gI (xg x), 32, .inl v2)), (a3, .inr (7, [.ref a4, .int v3])), (a4, .inl (gJ (xg x), 60, .inr (.inl v4))), (a5, .inr (7, [.ref a6, .int v5])), (a6, .inl (gJ (xg x), 60, .inr (.inl v6)))]) (rest := [.int z4]) (T := TX6) (c_X6_word (xl x) (xg x) a7 a8 v7 v8 z5 h) gX3_fillPlaces_X6_word (by rfl) rfl rfl (by decide +kernel) ⟨⟨(by dsimp only [rm_X3_fillPlaces, rm_X3_tryWord, rm_X2_take, rm_X2_put, rm_X6_append, rm_X6_word, rm_X6_size, rm_X6_copy, rm_X6_delete, rm_X7_lengthOf]; omega), (by dsimp only [rm_X3_fillPlaces, rm_X3_tryWord, rm_X2_take, rm_X2_put, rm_X6_append, rm_X6_word, rm_X6_size, rm_X6_copy, rm_X6_delete, rm_X7_lengthOf]; omega)⟩, hk.1, hk.2⟩ (Nat.le_of_ble_eq_true rfl) rfl rfl (sb_of [7, 8, 0, 1, 2, 3, 4, 5, 6] rfl rfl) rfl dX3_fillPlaces_28 (fun v X1 hp => ?_)
      obtain ⟨r2, rfl, rfl, h⟩ := hp
      refine xw_X (sb_of [2, 3, 4, 5, 6, 7, 8, 0, 1] rfl rfl) (show ww x (W_X3_fillPlaces (xg x) a0 a1 a2 a3 a4 a5 a6 a7 a8 v0 v1 v2 v3 v4 v5 v6 v7 v8) [(0, .ref a0), (1, .ref a7), (2, .int z2), (4, .int z4), (5, .int z5)] k0 n0 31 [.long r2, .int z4] from ?_)
      refine xw_callS hf (pc := 31) (nA := 1) (Xr := W_X3_fillPlaces (xg x) a0 a1 a2 a3 a4 a5 a6 a7 a8 v0 v1 v2 v3 v4 v5 v6 v7 v8) (rest := [.int z4]) (c_X7_lengthOf (xl x) (xg x) r2 h) gX3_fillPlaces_X7_lengthOf (by rfl) rfl (by decide +kernel) ⟨⟨(by dsimp only [rm_X3_fillPlaces, rm_X3_tryWord, rm_X2_take, rm_X2_put, rm_X6_append, rm_X6_word, rm_X6_size, rm_X6_copy, rm_X6_delete, rm_X7_lengthOf]; omega), (by dsimp only [rm_X3_fillPlaces, rm_X3_tryWord, rm_X2_take, rm_X2_put, rm_X6_append, rm_X6_word, rm_X6_size, rm_X6_copy, rm_X6_delete, rm_X7_lengthOf]; omega)⟩, hk.1, hk.2⟩ (Nat.le_of_ble_eq_true rfl) (sb_rf _) rfl dX3_fillPlaces_31 (fun v X1 hp => ?_)
      obtain ⟨r3, rfl, rfl, h⟩ := hp
      show ww x (W_X3_fillPlaces (xg x) a0 a1 a2 a3 a4 a5 a6 a7 a8 v0 v1 v2 v3 v4 v5 v6 v7 v8) [(0, .ref a0), (1, .ref a7), (2, .int z2), (4, .int z4), (5, .int z5)] k0 n0 34 [.int r3, .int z4]
      refine xw_iadd hf (pc := 34) dX3_fillPlaces_34 ?_
      refine xw_topi (fun y4 ey4 => ?_)
      have h := h y4 ey4
      refine xw_istore hf (pc := 35) dX3_fillPlaces_35 [(6, .int y4), (0, .ref a0), (1, .ref a7), (2, .int z2), (4, .int z4), (5, .int z5)] hn (by decide) rfl ?_
      refine xw_iload hf (pc := 37) dX3_fillPlaces_37 0 rfl ?_
      refine xw_iload_n hf (pc := 39) dX3_fillPlaces_39 rfl 3 rfl ?_
      refine xw_iconst hf (pc := 40) dX3_fillPlaces_40 (v := 1) (by decide) ?_
      refine xw_isub hf (pc := 41) dX3_fillPlaces_41 ?_
      refine xw_aload_n hf (pc := 42) dX3_fillPlaces_42 rfl 1 rfl ?_
      refine xw_get hf (pc := 43) dX3_fillPlaces_43 (T := TX3) mi_X3_fillPlaces_X3 rfl 0 rfl 4 (by decide) rfl mw_X3_fillPlaces_0 rfl ?_
      refine xw_imul hf (pc := 46) dX3_fillPlaces_46 ?_
      refine xw_iadd hf (pc := 47) dX3_fillPlaces_47 ?_
      refine xw_topi (fun y5 ey5 => ?_)
      have h := h y5 ey5
      refine xw_istore hf (pc := 48) dX3_fillPlaces_48 [(7, .int y5), (6, .int y4), (0, .ref a0), (1, .ref a7), (2, .int z2), (4, .int z4), (5, .int z5)] hn (by decide) rfl ?_
      refine xw_iload hf (pc := 50) dX3_fillPlaces_50 0 rfl ?_
      refine xw_aload_n hf (pc := 52) dX3_fillPlaces_52 rfl 2 rfl ?_
      refine xw_get hf (pc := 53) dX3_fillPlaces_53 (T := TX3) mi_X3_fillPlaces_X3 rfl 0 rfl 3 (by decide) rfl mw_X3_fillPlaces_1 rfl ?_
      refine xw_icmp_le hf (pc := 56) dX3_fillPlaces_56 (tgt := 69) rfl ⟨fun c => ?_, fun c => ?_⟩
      · have h := h.1 c
        refine xw_iinc hf (pc := 69) dX3_fillPlaces_69 (v := z5 + 1) 6 rfl rfl [(5, .int (z5 + 1)), (7, .int y5), (6, .int y4), (0, .ref a0), (1, .ref a7), (2, .int z2), (4, .int z4)] hn (by decide) rfl ?_
        refine xw_goto hf (pc := 72) dX3_fillPlaces_72 (tgt := 14) rfl ?_
        refine xw_L [3, 4, 5, 6, 0] rfl ?_
        exact ih _ _ _ _ _ _ _ h
      · have h := h.2 c
        refine xw_aload_n hf (pc := 59) dX3_fillPlaces_59 rfl 2 rfl ?_
        refine xw_aload_n hf (pc := 60) dX3_fillPlaces_60 rfl 3 rfl ?_
        refine xw_iload_n hf (pc := 61) dX3_fillPlaces_61 rfl 4 rfl ?_
        refine xw_iload hf (pc := 62) dX3_fillPlaces_62 6 rfl ?_
        refine xw_iload hf (pc := 64) dX3_fillPlaces_64 1 rfl ?_
        refine xw_callV hf (pc := 66) (nA := 4) (Xr := []) (rest := []) (T := TX3) (c_X3_tryWord (xl x) (xg x) d hF a0 a1 a2 a3 a4 a5 a6 a7 a8 v0 v1 v2 v3 v4 v5 v6 v7 v8 z2 z5 y4 h) gX3_fillPlaces_X3_tryWord (by rfl) rfl rfl (by decide +kernel) ⟨⟨(by dsimp only [rm_X3_fillPlaces, rm_X3_tryWord, rm_X2_take, rm_X2_put, rm_X6_append, rm_X6_word, rm_X6_size, rm_X6_copy, rm_X6_delete, rm_X7_lengthOf]; omega), (by dsimp only [rm_X3_fillPlaces, rm_X3_tryWord, rm_X2_take, rm_X2_put, rm_X6_append, rm_X6_word, rm_X6_size, rm_X6_copy, rm_X6_delete, rm_X7_lengthOf]; omega)⟩, hk.1, hk.2⟩ (Nat.le_of_ble_eq_true rfl) rfl rfl (sb_of [0, 1, 2, 3, 4, 5, 6, 7, 8] rfl rfl) rfl dX3_fillPlaces_66 (fun v X1 hp => ?_)
        obtain ⟨w7, w8, w9, w10, w11, w12, rfl, rfl, h⟩ := hp
        refine xw_X (sb_of [0, 1, 2, 3, 4, 5, 6, 7, 8] rfl rfl) (show ww x (W_X3_fillPlaces (xg x) a0 a1 a2 a3 a4 a5 a6 a7 a8 w7 v1 w8 w9 w10 w11 w12 v7 v8) [(7, .int y5), (6, .int y4), (0, .ref a0), (1, .ref a7), (2, .int z2), (4, .int z4), (5, .int z5)] k0 n0 69 [] from ?_)
        refine xw_iinc hf (pc := 69) dX3_fillPlaces_69 (v := z5 + 1) 6 rfl rfl [(5, .int (z5 + 1)), (7, .int y5), (6, .int y4), (0, .ref a0), (1, .ref a7), (2, .int z2), (4, .int z4)] hn (by decide) rfl ?_
        refine xw_goto hf (pc := 72) dX3_fillPlaces_72 (tgt := 14) rfl ?_
        refine xw_L [3, 4, 5, 6, 0] rfl ?_
        exact ih _ _ _ _ _ _ _ h
set_option maxHeartbeats 4000000 in
set_option maxRecDepth 100000 in
theorem c_X3_fillPlaces (l : Launch) (g : Gx) (d : Nat) : HFP l g d (P_X3_fillPlaces d) := by
  induction d with
  | zero => intro a0 a1 a2 a3 a4 a5 a6 a7 a8 v0 v1 v2 v3 v4 v5 v6 v7 v8 p2 p3 p4 post h; exact h.elim
  | succ d ih =>
    intro a0 a1 a2 a3 a4 a5 a6 a7 a8 v0 v1 v2 v3 v4 v5 v6 v7 v8 p2 p3 p4 post h
    refine cm_of (cc := cX3_fillPlaces) (nL := 8) (ret := none) (by decide +kernel) rfl (Nat.le_of_ble_eq_true rfl) ?_
    intro x hf hl hg hn hi hr
    subst hl
    subst hg
    show ww x (W_X3_fillPlaces (xg x) a0 a1 a2 a3 a4 a5 a6 a7 a8 v0 v1 v2 v3 v4 v5 v6 v7 v8) [(0, .ref a0), (1, .ref a7), (2, .int p2), (3, .int p3), (4, .int p4)] 0 0 0 []
    dsimp only [P_X3_fillPlaces] at h
    refine xw_iload_n hf (pc := 0) dX3_fillPlaces_0 rfl 2 rfl ?_
    refine xw_iconst hf (pc := 1) dX3_fillPlaces_1 (v := 1) (by decide) ?_
    refine xw_icmp_lt hf (pc := 2) dX3_fillPlaces_2 (tgt := 10) rfl ⟨fun c => ?_, fun c => ?_⟩
    · have h := h.1 c
      exact xw_vret hf (pc := 10) dX3_fillPlaces_10 hr (Nat.le_of_ble_eq_true rfl) (Nat.le_of_ble_eq_true rfl) ⟨_, _, _, _, _, _, rfl, rfl, h⟩
    · have h := h.2 c
      refine xw_iload_n hf (pc := 5) dX3_fillPlaces_5 rfl 2 rfl ?_
      refine xw_iconst hf (pc := 6) dX3_fillPlaces_6 (v := 3) (by decide) ?_
      refine xw_icmp_le hf (pc := 7) dX3_fillPlaces_7 (tgt := 11) rfl ⟨fun c => ?_, fun c => ?_⟩
      · have h := h.1 c
        refine xw_iload_n hf (pc := 11) dX3_fillPlaces_11 rfl 3 rfl ?_
        refine xw_istore hf (pc := 12) dX3_fillPlaces_12 [(5, .int p3), (0, .ref a0), (1, .ref a7), (2, .int p2), (3, .int p3), (4, .int p4)] hn (by decide) rfl ?_
        refine xw_L [1, 2, 3, 5, 0] rfl ?_
        refine w_X3_fillPlaces_L14 ih hf hn ⟨(Nat.le_of_ble_eq_true rfl), (Nat.le_of_ble_eq_true rfl)⟩ a0 a1 a2 a3 a4 a5 a6 a7 a8 p2 p4 v1 v7 v8 FU _ _ _ _ _ _ _ h (fun w13 w14 w15 w16 w17 w18 h => ?_)
        exact xw_vret hf (pc := 75) dX3_fillPlaces_75 hr (Nat.le_of_ble_eq_true rfl) (Nat.le_of_ble_eq_true rfl) ⟨_, _, _, _, _, _, rfl, rfl, h⟩
      · have h := h.2 c
        exact xw_vret hf (pc := 10) dX3_fillPlaces_10 hr (Nat.le_of_ble_eq_true rfl) (Nat.le_of_ble_eq_true rfl) ⟨_, _, _, _, _, _, rfl, rfl, h⟩
abbrev W_X3_plan (g : Gx) (a0 a1 a2 a3 a4 a5 a6 a7 a8 : Nat) (v0 : Int32) (v1 : Int32) (v2 : Nat → Int32) (v3 : Int32) (v4 : Nat → Int64) (v5 : Int32) (v6 : Nat → Int64) (v7 : Int32) (v8 : Nat → Int64) : va_W := [(a0, .inr (4, [.ref a1, .ref a3, .ref a5, .int v0, .int v1])), (a1, .inr (3, [.ref a2])), (a2, .inl (gI g, 32, .inl v2)), (a3, .inr (7, [.ref a4, .int v3])), (a4, .inl (gJ g, 60, .inr (.inl v4))), (a5, .inr (7, [.ref a6, .int v5])), (a6, .inl (gJ g, 60, .inr (.inl v6))), (a7, .inr (7, [.ref a8, .int v7])), (a8, .inl (gJ g, 60, .inr (.inl v8)))]
abbrev rm_X3_plan : Room := { frames := 12, cells := 0, slots := 0, locals := 727 }
theorem mw_X3_plan_0 : (Cond.fieldLink RX3 10 "AnagramButcher$Planner" "left" "LAnagramButcher$Pile;" : Cond) ∈ wsX3_plan := (List.mem_cons_of_mem _ (List.mem_append_left _ (List.mem_append_left _ (List.mem_append_left _ (List.mem_append_left _ (List.mem_of_getElem? (l := wsX3_plan_r1) (i := 0) rfl))))))
theorem mw_X3_plan_1 : (Cond.fieldLink RX3 23 "AnagramButcher$Planner" "best" "LAnagramButcher$WordRow;" : Cond) ∈ wsX3_plan := (List.mem_cons_of_mem _ (List.mem_append_left _ (List.mem_append_left _ (List.mem_append_left _ (List.mem_append_left _ (List.mem_of_getElem? (l := wsX3_plan_r1) (i := 1) rfl))))))
theorem mw_X3_plan_2 : (Cond.fieldLink RX3 34 "AnagramButcher$Planner" "bestLetters" "I" : Cond) ∈ wsX3_plan := (List.mem_cons_of_mem _ (List.mem_append_left _ (List.mem_append_left _ (List.mem_append_left _ (List.mem_append_left _ (List.mem_of_getElem? (l := wsX3_plan_r1) (i := 2) rfl))))))
theorem mw_X3_plan_3 : (Cond.fieldLink RX3 42 "AnagramButcher$Planner" "longest" "I" : Cond) ∈ wsX3_plan := (List.mem_cons_of_mem _ (List.mem_append_left _ (List.mem_append_left _ (List.mem_append_left _ (List.mem_append_left _ (List.mem_of_getElem? (l := wsX3_plan_r1) (i := 3) rfl))))))
theorem mi_X3_plan_X3 : ∀ w ∈ wsX30, w ∈ wsX3_plan := fun _ h => (List.mem_cons_of_mem _ (List.mem_append_left _ (List.mem_append_left _ (List.mem_append_right _ h))))
set_option maxHeartbeats 4000000 in
set_option maxRecDepth 100000 in
theorem w_X3_plan_L39 {x : Cx} (hf : fx x (rm_X3_plan) RX3 cX3_plan wsX3_plan) (hn : xn x = 6) {k0 n0 : Nat} (hk : k0 ≤ (rm_X3_plan).cells ∧ n0 ≤ (rm_X3_plan).slots) (a0 a1 a2 a3 a4 a5 a6 a7 a8 : Nat) (z4 : Int32) (v1 : Int32) (v7 : Int32) (v8 : Nat → Int64) {K67 : Int32 → (Nat → Int32) → Int32 → (Nat → Int64) → Int32 → (Nat → Int64) → Prop}
    (n : Nat) (z5 : Int32) (v0 : Int32) (v2 : Nat → Int32) (v3 : Int32) (v4 : Nat → Int64) (v5 : Int32) (v6 : Nat → Int64) (h : P_X3_plan_L39 z4 v1 v7 v8 K67 n z5 v0 v2 v3 v4 v5 v6)
    (hK67 : ∀ (uv0 : Int32), ∀ (uv2 : Nat → Int32), ∀ (uv3 : Int32), ∀ (uv4 : Nat → Int64), ∀ (uv5 : Int32), ∀ (uv6 : Nat → Int64), K67 uv0 uv2 uv3 uv4 uv5 uv6 → ww x (W_X3_plan (xg x) a0 a1 a2 a3 a4 a5 a6 a7 a8 uv0 v1 uv2 uv3 uv4 uv5 uv6 v7 v8) [(0, .ref a0)] k0 n0 67 []) :
    ww x (W_X3_plan (xg x) a0 a1 a2 a3 a4 a5 a6 a7 a8 v0 v1 v2 v3 v4 v5 v6 v7 v8) [(0, .ref a0), (1, .ref a7), (4, .int z4), (5, .int z5)] k0 n0 39 [] := by
  induction n generalizing z5 v0 v2 v3 v4 v5 v6 with
  | zero => exact h.elim
  | succ n ih =>
    unfold P_X3_plan_L39 at h
    refine xw_iload hf (pc := 39) dX3_plan_39 3 rfl ?_
    refine xw_iload hf (pc := 41) dX3_plan_41 2 rfl ?_
    refine xw_icmp_gt hf (pc := 43) dX3_plan_43 (tgt := 67) rfl ⟨fun c => ?_, fun c => ?_⟩
    · have h := h.1 c
      refine xw_L [0] rfl ?_
      exact hK67 _ _ _ _ _ _ h
    · have h := h.2 c
      refine xw_iload hf (pc := 46) dX3_plan_46 3 rfl ?_
      refine xw_iconst hf (pc := 48) dX3_plan_48 (v := 3) (by decide) ?_
      refine xw_icmp_gt hf (pc := 49) dX3_plan_49 (tgt := 67) rfl ⟨fun c => ?_, fun c => ?_⟩
      · have h := h.1 c
        refine xw_L [0] rfl ?_
        exact hK67 _ _ _ _ _ _ h
      · have h := h.2 c
        refine xw_aload_n hf (pc := 52) dX3_plan_52 rfl 0 rfl ?_
        refine xw_aload_n hf (pc := 53) dX3_plan_53 rfl 1 rfl ?_
        refine xw_iload hf (pc := 54) dX3_plan_54 3 rfl ?_
        refine xw_iconst hf (pc := 56) dX3_plan_56 (v := 0) (by decide) ?_
        refine xw_iconst hf (pc := 57) dX3_plan_57 (v := 0) (by decide) ?_
        refine xw_callV hf (pc := 58) (nA := 4) (Xr := []) (rest := []) (T := TX3) (c_X3_fillPlaces (xl x) (xg x) 5 a0 a1 a2 a3 a4 a5 a6 a7 a8 v0 v1 v2 v3 v4 v5 v6 v7 v8 z5 0 0 _ h) gX3_plan_X3_fillPlaces (by rfl) rfl rfl (by decide +kernel) ⟨⟨(Nat.le_of_ble_eq_true rfl), (Nat.le_of_ble_eq_true rfl)⟩, hk.1, hk.2⟩ (Nat.le_of_ble_eq_true rfl) rfl rfl (sb_of [0, 1, 2, 3, 4, 5, 6, 7, 8] rfl rfl) rfl dX3_plan_58 (fun v X1 hp => ?_)
        obtain ⟨w9, w10, w11, w12, w13, w14, rfl, rfl, h⟩ := hp
        refine xw_X (sb_of [0, 1, 2, 3, 4, 5, 6, 7, 8] rfl rfl) (show ww x (W_X3_plan (xg x) a0 a1 a2 a3 a4 a5 a6 a7 a8 w9 v1 w10 w11 w12 w13 w14 v7 v8) [(0, .ref a0), (1, .ref a7), (4, .int z4), (5, .int z5)] k0 n0 61 [] from ?_)
        refine xw_iinc hf (pc := 61) dX3_plan_61 (v := z5 + 1) 3 rfl rfl [(5, .int (z5 + 1)), (0, .ref a0), (1, .ref a7), (4, .int z4)] hn (by decide) rfl ?_
        refine xw_goto hf (pc := 64) dX3_plan_64 (tgt := 39) rfl ?_
        refine xw_L [1, 2, 3, 0] rfl ?_
        exact ih _ _ _ _ _ _ _ h
set_option maxHeartbeats 4000000 in
set_option maxRecDepth 100000 in
theorem w_X3_plan_L70 {x : Cx} (hf : fx x (rm_X3_plan) RX3 cX3_plan wsX3_plan) (hn : xn x = 6) {k0 n0 : Nat} (hk : k0 ≤ (rm_X3_plan).cells ∧ n0 ≤ (rm_X3_plan).slots) (a0 a1 a2 a3 a4 a5 a6 a7 a8 : Nat) (v5 : Int32) (v6 : Nat → Int64) (v0 : Int32) (v1 : Int32) (v3 : Int32) (v4 : Nat → Int64) (v7 : Int32) (v8 : Nat → Int64) {K105 : (Nat → Int32) → Prop}
    (n : Nat) (z5 : Int32) (v2 : Nat → Int32) (h : P_X3_plan_L70 v5 v6 K105 n z5 v2)
    (hK105 : ∀ (uv2 : Nat → Int32), K105 uv2 → ww x (W_X3_plan (xg x) a0 a1 a2 a3 a4 a5 a6 a7 a8 v0 v1 uv2 v3 v4 v5 v6 v7 v8) [] k0 n0 105 []) :
    ww x (W_X3_plan (xg x) a0 a1 a2 a3 a4 a5 a6 a7 a8 v0 v1 v2 v3 v4 v5 v6 v7 v8) [(0, .ref a0), (5, .int z5)] k0 n0 70 [] := by
  induction n generalizing z5 v2 with
  | zero => exact h.elim
  | succ n ih =>
    unfold P_X3_plan_L70 at h
    refine xw_iload hf (pc := 70) dX3_plan_70 1 rfl ?_
    refine xw_aload_n hf (pc := 72) dX3_plan_72 rfl 0 rfl ?_
    refine xw_get hf (pc := 73) dX3_plan_73 (T := TX3) mi_X3_plan_X3 rfl 0 rfl 2 (by decide) rfl mw_X3_plan_1 rfl ?_
    refine xw_callV hf (pc := 76) (nA := 0) (Xr := [(a0, .inr (4, [.ref a1, .ref a3, .ref a5, .int v0, .int v1])), (a1, .inr (3, [.ref a2])), (a2, .inl (gI (xg x), 32, .inl v2)), (a3, .inr (7, [.ref a4, .int v3])), (a4, .inl (gJ (xg x), 60, .inr (.inl v4))), (a6, .inl (gJ (xg x), 60, .inr (.inl v6))), (a7, .inr (7, [.ref a8, .int v7])), (a8, .inl (gJ (xg x), 60, .inr (.inl v8)))]) (rest := [.int z5]) (T := TX6) (c_X6_size (xl x) (xg x) a5 a6 v5 h) gX3_plan_X6_size (by rfl) rfl rfl (by decide +kernel) ⟨⟨(Nat.le_of_ble_eq_true rfl), (Nat.le_of_ble_eq_true rfl)⟩, hk.1, hk.2⟩ (Nat.le_of_ble_eq_true rfl) rfl rfl (sb_of [5, 0, 1, 2, 3, 4, 6, 7, 8] rfl rfl) rfl dX3_plan_76 (fun v X1 hp => ?_)
    obtain ⟨r21, rfl, rfl, h⟩ := hp
    refine xw_X (sb_of [1, 2, 3, 4, 5, 0, 6, 7, 8] rfl rfl) (show ww x (W_X3_plan (xg x) a0 a1 a2 a3 a4 a5 a6 a7 a8 v0 v1 v2 v3 v4 v5 v6 v7 v8) [(0, .ref a0), (5, .int z5)] k0 n0 79 [.int r21, .int z5] from ?_)
    refine xw_icmp_ge hf (pc := 79) dX3_plan_79 (tgt := 105) rfl ⟨fun c => ?_, fun c => ?_⟩
    · have h := h.1 c
      refine xw_L [] rfl ?_
      exact hK105 _ h
    · have h := h.2 c
      refine xw_aload_n hf (pc := 82) dX3_plan_82 rfl 0 rfl ?_
      refine xw_get hf (pc := 83) dX3_plan_83 (T := TX3) mi_X3_plan_X3 rfl 0 rfl 0 (by decide) rfl mw_X3_plan_0 rfl ?_
      refine xw_aload_n hf (pc := 86) dX3_plan_86 rfl 0 rfl ?_
      refine xw_get hf (pc := 87) dX3_plan_87 (T := TX3) mi_X3_plan_X3 rfl 0 rfl 2 (by decide) rfl mw_X3_plan_1 rfl ?_
      refine xw_iload hf (pc := 90) dX3_plan_90 1 rfl ?_
      refine xw_callV hf (pc := 92) (nA := 1) (Xr := [(a0, .inr (4, [.ref a1, .ref a3, .ref a5, .int v0, .int v1])), (a1, .inr (3, [.ref a2])), (a2, .inl (gI (xg x), 32, .inl v2)), (a3, .inr (7, [.ref a4, .int v3])), (a4, .inl (gJ (xg x), 60, .inr (.inl v4))), (a7, .inr (7, [.ref a8, .int v7])), (a8, .inl (gJ (xg x), 60, .inr (.inl v8)))]) (rest := [.ref a1]) (T := TX6) (c_X6_word (xl x) (xg x) a5 a6 v5 v6 z5 h) gX3_plan_X6_word (by rfl) rfl rfl (by decide +kernel) ⟨⟨(Nat.le_of_ble_eq_true rfl), (Nat.le_of_ble_eq_true rfl)⟩, hk.1, hk.2⟩ (Nat.le_of_ble_eq_true rfl) rfl rfl (sb_of [5, 6, 0, 1, 2, 3, 4, 7, 8] rfl rfl) rfl dX3_plan_92 (fun v X1 hp => ?_)
      obtain ⟨r22, rfl, rfl, h⟩ := hp
      refine xw_X (sb_of [2, 3, 4, 5, 6, 0, 1, 7, 8] rfl rfl) (show ww x (W_X3_plan (xg x) a0 a1 a2 a3 a4 a5 a6 a7 a8 v0 v1 v2 v3 v4 v5 v6 v7 v8) [(0, .ref a0), (5, .int z5)] k0 n0 95 [.long r22, .ref a1] from ?_)
      refine xw_callV hf (pc := 95) (nA := 1) (Xr := [(a0, .inr (4, [.ref a1, .ref a3, .ref a5, .int v0, .int v1])), (a3, .inr (7, [.ref a4, .int v3])), (a4, .inl (gJ (xg x), 60, .inr (.inl v4))), (a5, .inr (7, [.ref a6, .int v5])), (a6, .inl (gJ (xg x), 60, .inr (.inl v6))), (a7, .inr (7, [.ref a8, .int v7])), (a8, .inl (gJ (xg x), 60, .inr (.inl v8)))]) (rest := []) (T := TX2) (c_X2_take (xl x) (xg x) a1 a2 v2 r22 h) gX3_plan_X2_take (by rfl) rfl rfl (by decide +kernel) ⟨⟨(Nat.le_of_ble_eq_true rfl), (Nat.le_of_ble_eq_true rfl)⟩, hk.1, hk.2⟩ (Nat.le_of_ble_eq_true rfl) rfl rfl (sb_of [1, 2, 0, 3, 4, 5, 6, 7, 8] rfl rfl) rfl dX3_plan_95 (fun v X1 hp => ?_)
      obtain ⟨r23, w24, rfl, rfl, h⟩ := hp
      refine xw_X (sb_of [2, 0, 1, 3, 4, 5, 6, 7, 8] rfl rfl) (show ww x (W_X3_plan (xg x) a0 a1 a2 a3 a4 a5 a6 a7 a8 v0 v1 w24 v3 v4 v5 v6 v7 v8) [(0, .ref a0), (5, .int z5)] k0 n0 98 [.int r23] from ?_)
      refine xw_pop hf (pc := 98) dX3_plan_98 rfl ?_
      refine xw_iinc hf (pc := 99) dX3_plan_99 (v := z5 + 1) 1 rfl rfl [(5, .int (z5 + 1)), (0, .ref a0)] hn (by decide) rfl ?_
      refine xw_goto hf (pc := 102) dX3_plan_102 (tgt := 70) rfl ?_
      refine xw_L [1, 0] rfl ?_
      exact ih _ _ h
set_option maxHeartbeats 4000000 in
set_option maxRecDepth 100000 in
theorem c_X3_plan (l : Launch) (g : Gx) (a0 a1 a2 a3 a4 a5 a6 a7 a8 : Nat) (v0 : Int32) (v1 : Int32) (v2 : Nat → Int32) (v3 : Int32) (v4 : Nat → Int64) (v5 : Int32) (v6 : Nat → Int64) (v7 : Int32) (v8 : Nat → Int64) (p2 : Int64) (p4 : Int32) {post : Int32 → Int32 → (Nat → Int32) → Int32 → (Nat → Int64) → Int32 → (Nat → Int64) → Prop} (h : P_X3_plan post p2 p4 v0 v1 v2 v3 v4 v5 v6 v7 v8) : cm l g yX3_plan wsX3_plan (rm_X3_plan) [.ref a0, .ref a7, .long p2, .int p4] (W_X3_plan g a0 a1 a2 a3 a4 a5 a6 a7 a8 v0 v1 v2 v3 v4 v5 v6 v7 v8) (fun v X1 => ∃ (uv0 : Int32) (uv1 : Int32) (uv2 : Nat → Int32) (uv3 : Int32) (uv4 : Nat → Int64) (uv5 : Int32) (uv6 : Nat → Int64), v = none ∧ X1 = W_X3_plan g a0 a1 a2 a3 a4 a5 a6 a7 a8 uv0 uv1 uv2 uv3 uv4 uv5 uv6 v7 v8 ∧ post uv0 uv1 uv2 uv3 uv4 uv5 uv6) := by
  refine cm_of (cc := cX3_plan) (nL := 6) (ret := none) (by decide +kernel) rfl (Nat.le_of_ble_eq_true rfl) ?_
  intro x hf hl hg hn hi hr
  subst hl
  subst hg
  show ww x (W_X3_plan (xg x) a0 a1 a2 a3 a4 a5 a6 a7 a8 v0 v1 v2 v3 v4 v5 v6 v7 v8) [(0, .ref a0), (1, .ref a7), (2, .long p2), (4, .int p4)] 0 0 0 []
  unfold P_X3_plan at h
  refine xw_aload_n hf (pc := 0) dX3_plan_0 rfl 0 rfl ?_
  refine xw_get hf (pc := 1) dX3_plan_1 (T := TX3) mi_X3_plan_X3 rfl 0 rfl 0 (by decide) rfl mw_X3_plan_0 rfl ?_
  refine xw_callV hf (pc := 4) (nA := 0) (Xr := [(a0, .inr (4, [.ref a1, .ref a3, .ref a5, .int v0, .int v1])), (a3, .inr (7, [.ref a4, .int v3])), (a4, .inl (gJ (xg x), 60, .inr (.inl v4))), (a5, .inr (7, [.ref a6, .int v5])), (a6, .inl (gJ (xg x), 60, .inr (.inl v6))), (a7, .inr (7, [.ref a8, .int v7])), (a8, .inl (gJ (xg x), 60, .inr (.inl v8)))]) (rest := []) (T := TX2) (c_X2_clear (xl x) (xg x) a1 a2 v2 h) gX3_plan_X2_clear (by rfl) rfl rfl (by decide +kernel) ⟨⟨(Nat.le_of_ble_eq_true rfl), (Nat.le_of_ble_eq_true rfl)⟩, (Nat.le_of_ble_eq_true rfl), (Nat.le_of_ble_eq_true rfl)⟩ (Nat.le_of_ble_eq_true rfl) rfl rfl (sb_of [1, 2, 0, 3, 4, 5, 6, 7, 8] rfl rfl) rfl dX3_plan_4 (fun v X1 hp => ?_)
  obtain ⟨w2, rfl, rfl, h⟩ := hp
  refine xw_X (sb_of [2, 0, 1, 3, 4, 5, 6, 7, 8] rfl rfl) (show ww x (W_X3_plan (xg x) a0 a1 a2 a3 a4 a5 a6 a7 a8 v0 v1 w2 v3 v4 v5 v6 v7 v8) [(0, .ref a0), (1, .ref a7), (2, .long p2), (4, .int p4)] 0 0 7 [] from ?_)
  refine xw_aload_n hf (pc := 7) dX3_plan_7 rfl 0 rfl ?_
  refine xw_get hf (pc := 8) dX3_plan_8 (T := TX3) mi_X3_plan_X3 rfl 0 rfl 0 (by decide) rfl mw_X3_plan_0 rfl ?_
  refine xw_lload_n hf (pc := 11) dX3_plan_11 rfl 2 rfl ?_
  refine xw_iconst hf (pc := 12) dX3_plan_12 (v := 1) (by decide) ?_
  refine xw_callV hf (pc := 13) (nA := 2) (Xr := [(a0, .inr (4, [.ref a1, .ref a3, .ref a5, .int v0, .int v1])), (a3, .inr (7, [.ref a4, .int v3])), (a4, .inl (gJ (xg x), 60, .inr (.inl v4))), (a5, .inr (7, [.ref a6, .int v5])), (a6, .inl (gJ (xg x), 60, .inr (.inl v6))), (a7, .inr (7, [.ref a8, .int v7])), (a8, .inl (gJ (xg x), 60, .inr (.inl v8)))]) (rest := []) (T := TX2) (c_X2_put (xl x) (xg x) a1 a2 w2 p2 1 h) gX3_plan_X2_put (by rfl) rfl rfl (by decide +kernel) ⟨⟨(Nat.le_of_ble_eq_true rfl), (Nat.le_of_ble_eq_true rfl)⟩, (Nat.le_of_ble_eq_true rfl), (Nat.le_of_ble_eq_true rfl)⟩ (Nat.le_of_ble_eq_true rfl) rfl rfl (sb_of [1, 2, 0, 3, 4, 5, 6, 7, 8] rfl rfl) rfl dX3_plan_13 (fun v X1 hp => ?_)
  obtain ⟨w4, rfl, rfl, h⟩ := hp
  refine xw_X (sb_of [2, 0, 1, 3, 4, 5, 6, 7, 8] rfl rfl) (show ww x (W_X3_plan (xg x) a0 a1 a2 a3 a4 a5 a6 a7 a8 v0 v1 w4 v3 v4 v5 v6 v7 v8) [(0, .ref a0), (1, .ref a7), (2, .long p2), (4, .int p4)] 0 0 16 [] from ?_)
  refine xw_aload_n hf (pc := 16) dX3_plan_16 rfl 0 rfl ?_
  refine xw_get hf (pc := 17) dX3_plan_17 (T := TX3) mi_X3_plan_X3 rfl 0 rfl 2 (by decide) rfl mw_X3_plan_1 rfl ?_
  refine xw_callV hf (pc := 20) (nA := 0) (Xr := [(a0, .inr (4, [.ref a1, .ref a3, .ref a5, .int v0, .int v1])), (a1, .inr (3, [.ref a2])), (a2, .inl (gI (xg x), 32, .inl w4)), (a3, .inr (7, [.ref a4, .int v3])), (a4, .inl (gJ (xg x), 60, .inr (.inl v4))), (a6, .inl (gJ (xg x), 60, .inr (.inl v6))), (a7, .inr (7, [.ref a8, .int v7])), (a8, .inl (gJ (xg x), 60, .inr (.inl v8)))]) (rest := []) (T := TX6) (c_X6_clear (xl x) (xg x) a5 a6 v5 h) gX3_plan_X6_clear (by rfl) rfl rfl (by decide +kernel) ⟨⟨(Nat.le_of_ble_eq_true rfl), (Nat.le_of_ble_eq_true rfl)⟩, (Nat.le_of_ble_eq_true rfl), (Nat.le_of_ble_eq_true rfl)⟩ (Nat.le_of_ble_eq_true rfl) rfl rfl (sb_of [5, 0, 1, 2, 3, 4, 6, 7, 8] rfl rfl) rfl dX3_plan_20 (fun v X1 hp => ?_)
  obtain ⟨w6, rfl, rfl, h⟩ := hp
  refine xw_X (sb_of [1, 2, 3, 4, 5, 0, 6, 7, 8] rfl rfl) (show ww x (W_X3_plan (xg x) a0 a1 a2 a3 a4 a5 a6 a7 a8 v0 v1 w4 v3 v4 w6 v6 v7 v8) [(0, .ref a0), (1, .ref a7), (2, .long p2), (4, .int p4)] 0 0 23 [] from ?_)
  refine xw_aload_n hf (pc := 23) dX3_plan_23 rfl 0 rfl ?_
  refine xw_iconst hf (pc := 24) dX3_plan_24 (v := 0) (by decide) ?_
  refine xw_put hf (pc := 25) dX3_plan_25 (T := TX3) mi_X3_plan_X3 rfl tyX3_ok nmX3 0 rfl 3 (by decide) rfl mw_X3_plan_2 rfl rfl rfl rfl (Nat.le_of_ble_eq_true rfl) (W_X3_plan (xg x) a0 a1 a2 a3 a4 a5 a6 a7 a8 0 v1 w4 v3 v4 w6 v6 v7 v8) rfl ?_
  refine xw_aload_n hf (pc := 28) dX3_plan_28 rfl 0 rfl ?_
  refine xw_aload_n hf (pc := 29) dX3_plan_29 rfl 1 rfl ?_
  refine xw_callS hf (pc := 30) (nA := 1) (Xr := [(a0, .inr (4, [.ref a1, .ref a3, .ref a5, .int 0, .int v1])), (a1, .inr (3, [.ref a2])), (a2, .inl (gI (xg x), 32, .inl w4)), (a3, .inr (7, [.ref a4, .int v3])), (a4, .inl (gJ (xg x), 60, .inr (.inl v4))), (a5, .inr (7, [.ref a6, .int w6])), (a6, .inl (gJ (xg x), 60, .inr (.inl v6)))]) (rest := [.ref a0]) (c_X3_longestOf (xl x) (xg x) a7 a8 v7 v8 h) gX3_plan_X3_longestOf (by rfl) rfl (by decide +kernel) ⟨⟨(Nat.le_of_ble_eq_true rfl), (Nat.le_of_ble_eq_true rfl)⟩, (Nat.le_of_ble_eq_true rfl), (Nat.le_of_ble_eq_true rfl)⟩ (Nat.le_of_ble_eq_true rfl) (sb_of [7, 8, 0, 1, 2, 3, 4, 5, 6] rfl rfl) rfl dX3_plan_30 (fun v X1 hp => ?_)
  obtain ⟨r7, rfl, rfl, h⟩ := hp
  refine xw_X (sb_of [2, 3, 4, 5, 6, 7, 8, 0, 1] rfl rfl) (show ww x (W_X3_plan (xg x) a0 a1 a2 a3 a4 a5 a6 a7 a8 0 v1 w4 v3 v4 w6 v6 v7 v8) [(0, .ref a0), (1, .ref a7), (2, .long p2), (4, .int p4)] 0 0 33 [.int r7, .ref a0] from ?_)
  refine xw_put hf (pc := 33) dX3_plan_33 (T := TX3) mi_X3_plan_X3 rfl tyX3_ok nmX3 0 rfl 4 (by decide) rfl mw_X3_plan_3 rfl rfl rfl rfl (Nat.le_of_ble_eq_true rfl) (W_X3_plan (xg x) a0 a1 a2 a3 a4 a5 a6 a7 a8 0 r7 w4 v3 v4 w6 v6 v7 v8) rfl ?_
  refine xw_iconst hf (pc := 36) dX3_plan_36 (v := 1) (by decide) ?_
  refine xw_istore hf (pc := 37) dX3_plan_37 [(5, .int 1), (0, .ref a0), (1, .ref a7), (2, .long p2), (4, .int p4)] hn (by decide) rfl ?_
  refine xw_L [1, 2, 4, 0] rfl ?_
  refine w_X3_plan_L39 hf hn ⟨(Nat.le_of_ble_eq_true rfl), (Nat.le_of_ble_eq_true rfl)⟩ a0 a1 a2 a3 a4 a5 a6 a7 a8 p4 r7 v7 v8 FU _ _ _ _ _ _ _ h (fun w15 w16 w17 w18 w19 w20 h => ?_)
  refine xw_iconst hf (pc := 67) dX3_plan_67 (v := 0) (by decide) ?_
  refine xw_istore hf (pc := 68) dX3_plan_68 [(5, .int 0), (0, .ref a0)] hn (by decide) rfl ?_
  refine xw_L [1, 0] rfl ?_
  refine w_X3_plan_L70 hf hn ⟨(Nat.le_of_ble_eq_true rfl), (Nat.le_of_ble_eq_true rfl)⟩ a0 a1 a2 a3 a4 a5 a6 a7 a8 w19 w20 w15 r7 w17 w18 v7 v8 FU _ _ h (fun w25 h => ?_)
  exact xw_vret hf (pc := 105) dX3_plan_105 hr (Nat.le_of_ble_eq_true rfl) (Nat.le_of_ble_eq_true rfl) ⟨_, _, _, _, _, _, _, rfl, rfl, h⟩
