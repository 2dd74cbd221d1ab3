abbrev W_X8_cut (g : Gx) (a0 a1 a2 a3 a4 a5 a6 a7 a8 a9 a10 a11 a12 a13 a14 : Nat) (v0 : Nat → Int32) (v1 : Int32) (v2 : Nat → Int32) (v3 : Nat → Int32) : va_W := [(a0, .inr (8, [.ref a9, .ref a1, .ref a4, .ref a10, .ref a7])), (a1, .inr (6, [.ref a2, .ref a11, .ref a12])), (a2, .inr (3, [.ref a3])), (a3, .inl (gI g, 32, .inl v0)), (a4, .inr (1, [.ref a13, .ref a5, .ref a14, .int v1])), (a5, .inr (3, [.ref a6])), (a6, .inl (gI g, 32, .inl v2)), (a7, .inr (3, [.ref a8])), (a8, .inl (gI g, 32, .inl v3))]
abbrev rm_X8_cut : Room := { frames := 8, cells := 3, slots := 18, locals := 122 }
theorem mw_X8_cut_0 : (Cond.fieldLink RX8 40 "AnagramButcher" "incoming" "LAnagramButcher$Pile;" : Cond) ∈ wsX8_cut := (List.mem_cons_of_mem _ (List.mem_append_left _ (List.mem_append_left _ (List.mem_append_left _ (List.mem_append_left _ (List.mem_append_left _ (List.mem_append_left _ (List.mem_append_left _ (List.mem_of_getElem? (l := wsX8_cut_r1) (i := 0) rfl)))))))))
theorem mw_X8_cut_1 : (Cond.fieldLink RX8 19 "AnagramButcher" "stock" "LAnagramButcher$Stock;" : Cond) ∈ wsX8_cut := (List.mem_cons_of_mem _ (List.mem_append_left _ (List.mem_append_left _ (List.mem_append_left _ (List.mem_append_left _ (List.mem_append_left _ (List.mem_append_left _ (List.mem_append_left _ (List.mem_of_getElem? (l := wsX8_cut_r1) (i := 1) rfl)))))))))
theorem mw_X8_cut_2 : (Cond.fieldLink RX8 122 "AnagramButcher$Stock" "pieces" "LAnagramButcher$Pile;" : Cond) ∈ wsX8_cut := (List.mem_cons_of_mem _ (List.mem_append_left _ (List.mem_append_left _ (List.mem_append_left _ (List.mem_append_left _ (List.mem_append_left _ (List.mem_append_left _ (List.mem_append_left _ (List.mem_of_getElem? (l := wsX8_cut_r1) (i := 2) rfl)))))))))
theorem mw_X8_cut_3 : (Cond.fieldLink RX8 26 "AnagramButcher" "accounts" "LAnagramButcher$Accounts;" : Cond) ∈ wsX8_cut := (List.mem_cons_of_mem _ (List.mem_append_left _ (List.mem_append_left _ (List.mem_append_left _ (List.mem_append_left _ (List.mem_append_left _ (List.mem_append_left _ (List.mem_append_left _ (List.mem_of_getElem? (l := wsX8_cut_r1) (i := 3) rfl)))))))))
theorem mw_X8_cut_4 : (Cond.fieldLink RX8 128 "AnagramButcher$Accounts" "cameIn" "LAnagramButcher$Pile;" : Cond) ∈ wsX8_cut := (List.mem_cons_of_mem _ (List.mem_append_left _ (List.mem_append_left _ (List.mem_append_left _ (List.mem_append_left _ (List.mem_append_left _ (List.mem_append_left _ (List.mem_append_left _ (List.mem_of_getElem? (l := wsX8_cut_r1) (i := 4) rfl)))))))))
theorem mi_X8_cut_X8 : ∀ w ∈ wsX80, w ∈ wsX8_cut := fun _ h => (List.mem_cons_of_mem _ (List.mem_append_left _ (List.mem_append_left _ (List.mem_append_left _ (List.mem_append_left _ (List.mem_append_left _ (List.mem_append_right _ h)))))))
theorem mi_X8_cut_X5 : ∀ w ∈ wsX50, w ∈ wsX8_cut := fun _ h => (List.mem_cons_of_mem _ (List.mem_append_left _ (List.mem_append_left _ (List.mem_append_left _ (List.mem_append_left _ (List.mem_append_right _ h))))))
theorem mi_X8_cut_X0 : ∀ w ∈ wsX00, w ∈ wsX8_cut := fun _ h => (List.mem_cons_of_mem _ (List.mem_append_left _ (List.mem_append_left _ (List.mem_append_left _ (List.mem_append_right _ h)))))
set_option maxHeartbeats 4000000 in
set_option maxRecDepth 100000 in
theorem c_X8_cut (l : Launch) (g : Gx) (hst : l.stackTraces = false) (a0 a1 a2 a3 a4 a5 a6 a7 a8 a9 a10 a11 a12 a13 a14 : Nat) (v0 : Nat → Int32) (v1 : Int32) (v2 : Nat → Int32) (v3 : Nat → Int32) (p1 : Int64) (p3 : Int32) {post : Int32 → (Nat → Int32) → (Nat → Int32) → (Nat → Int32) → Prop} {postX : String → (Nat → Int32) → (Nat → Int32) → (Nat → Int32) → Prop} (h : P_X8_cut post postX p1 p3 v0 v1 v2 v3) : ce l g yX8_cut wsX8_cut (rm_X8_cut) [.ref a0, .long p1, .int p3] (W_X8_cut g a0 a1 a2 a3 a4 a5 a6 a7 a8 a9 a10 a11 a12 a13 a14 v0 v1 v2 v3) (fun v X1 => ∃ (r : Int32) (uv0 : Nat → Int32) (uv2 : Nat → Int32) (uv3 : Nat → Int32), v = some (.int r) ∧ X1 = W_X8_cut g a0 a1 a2 a3 a4 a5 a6 a7 a8 a9 a10 a11 a12 a13 a14 uv0 v1 uv2 uv3 ∧ post r uv0 uv2 uv3) (fun E X1 => ∃ (uv0 : Nat → Int32) (uv2 : Nat → Int32) (uv3 : Nat → Int32), X1 = W_X8_cut g a0 a1 a2 a3 a4 a5 a6 a7 a8 a9 a10 a11 a12 a13 a14 uv0 v1 uv2 uv3 ∧ postX E uv0 uv2 uv3) := by
  refine ce_of (cc := cX8_cut) (nL := 4) (ret := (some .int)) (by decide +kernel) rfl (Nat.le_of_ble_eq_true rfl) ?_
  intro x hf hl hg hn hi hr hx
  subst hl
  subst hg
  show ww x (W_X8_cut (xg x) a0 a1 a2 a3 a4 a5 a6 a7 a8 a9 a10 a11 a12 a13 a14 v0 v1 v2 v3) [(0, .ref a0), (1, .long p1), (3, .int p3)] 0 0 0 []
  unfold P_X8_cut at h
  refine xw_lload_n hf (pc := 0) dX8_cut_0 rfl 1 rfl ?_
  refine xw_callSX hf (pc := 1) (nA := 1) (Xr := W_X8_cut (xg x) a0 a1 a2 a3 a4 a5 a6 a7 a8 a9 a10 a11 a12 a13 a14 v0 v1 v2 v3) (rest := []) (c_X8_requireWord (xl x) (xg x) hst p1 h) gX8_cut_X8_requireWord (by rfl) rfl (by decide +kernel) ⟨⟨(Nat.le_of_ble_eq_true rfl), (Nat.le_of_ble_eq_true rfl)⟩, (Nat.le_of_ble_eq_true rfl), (Nat.le_of_ble_eq_true rfl)⟩ (Nat.le_of_ble_eq_true rfl) (sb_rf _) rfl dX8_cut_1 (fun v X1 hp => ?_) (fun E15 X1 hp => ?_)
  · obtain ⟨rfl, rfl, h⟩ := hp
    show ww x (W_X8_cut (xg x) a0 a1 a2 a3 a4 a5 a6 a7 a8 a9 a10 a11 a12 a13 a14 v0 v1 v2 v3) [(0, .ref a0), (1, .long p1), (3, .int p3)] 1 6 4 []
    refine xw_iload_n hf (pc := 4) dX8_cut_4 rfl 2 rfl ?_
    refine xw_iconst hf (pc := 5) dX8_cut_5 (v := 1) (by decide) ?_
    refine xw_bipush hf (pc := 6) dX8_cut_6 (v := 50) (by decide) ?_
    refine xw_callSX hf (pc := 8) (nA := 3) (Xr := W_X8_cut (xg x) a0 a1 a2 a3 a4 a5 a6 a7 a8 a9 a10 a11 a12 a13 a14 v0 v1 v2 v3) (rest := []) (c_X8_requireRange (xl x) (xg x) hst p3 1 50 h) gX8_cut_X8_requireRange (by rfl) rfl (by decide +kernel) ⟨⟨(Nat.le_of_ble_eq_true rfl), (Nat.le_of_ble_eq_true rfl)⟩, (Nat.le_of_ble_eq_true rfl), (Nat.le_of_ble_eq_true rfl)⟩ (Nat.le_of_ble_eq_true rfl) (sb_rf _) rfl dX8_cut_8 (fun v X1 hp => ?_) (fun E14 X1 hp => ?_)
    · obtain ⟨rfl, rfl, h⟩ := hp
      show ww x (W_X8_cut (xg x) a0 a1 a2 a3 a4 a5 a6 a7 a8 a9 a10 a11 a12 a13 a14 v0 v1 v2 v3) [(0, .ref a0), (1, .long p1), (3, .int p3)] 2 12 11 []
      refine xw_aload_n hf (pc := 11) dX8_cut_11 rfl 0 rfl ?_
      refine xw_get hf (pc := 12) dX8_cut_12 (T := TX8) mi_X8_cut_X8 rfl 0 rfl 4 (by decide) rfl mw_X8_cut_0 rfl ?_
      refine xw_callV hf (pc := 15) (nA := 0) (Xr := [(a0, .inr (8, [.ref a9, .ref a1, .ref a4, .ref a10, .ref a7])), (a1, .inr (6, [.ref a2, .ref a11, .ref a12])), (a2, .inr (3, [.ref a3])), (a3, .inl (gI (xg x), 32, .inl v0)), (a4, .inr (1, [.ref a13, .ref a5, .ref a14, .int v1])), (a5, .inr (3, [.ref a6])), (a6, .inl (gI (xg x), 32, .inl v2))]) (rest := []) (T := TX2) (c_X2_clear (xl x) (xg x) a7 a8 v3 h) gX8_cut_X2_clear (by rfl) rfl rfl (by decide +kernel) ⟨⟨(Nat.le_of_ble_eq_true rfl), (Nat.le_of_ble_eq_true rfl)⟩, (Nat.le_of_ble_eq_true rfl), (Nat.le_of_ble_eq_true rfl)⟩ (Nat.le_of_ble_eq_true rfl) rfl rfl (sb_of [7, 8, 0, 1, 2, 3, 4, 5, 6] rfl rfl) rfl dX8_cut_15 (fun v X1 hp => ?_)
      obtain ⟨w4, rfl, rfl, h⟩ := hp
      refine xw_X (sb_of [2, 3, 4, 5, 6, 7, 8, 0, 1] rfl rfl) (show ww x (W_X8_cut (xg x) a0 a1 a2 a3 a4 a5 a6 a7 a8 a9 a10 a11 a12 a13 a14 v0 v1 v2 w4) [(0, .ref a0), (1, .long p1), (3, .int p3)] 2 12 18 [] from ?_)
      refine xw_aload_n hf (pc := 18) dX8_cut_18 rfl 0 rfl ?_
      refine xw_get hf (pc := 19) dX8_cut_19 (T := TX8) mi_X8_cut_X8 rfl 0 rfl 4 (by decide) rfl mw_X8_cut_0 rfl ?_
      refine xw_lload_n hf (pc := 22) dX8_cut_22 rfl 1 rfl ?_
      refine xw_iload_n hf (pc := 23) dX8_cut_23 rfl 2 rfl ?_
      refine xw_callV hf (pc := 24) (nA := 2) (Xr := [(a0, .inr (8, [.ref a9, .ref a1, .ref a4, .ref a10, .ref a7])), (a1, .inr (6, [.ref a2, .ref a11, .ref a12])), (a2, .inr (3, [.ref a3])), (a3, .inl (gI (xg x), 32, .inl v0)), (a4, .inr (1, [.ref a13, .ref a5, .ref a14, .int v1])), (a5, .inr (3, [.ref a6])), (a6, .inl (gI (xg x), 32, .inl v2))]) (rest := []) (T := TX2) (c_X2_put (xl x) (xg x) a7 a8 w4 p1 p3 h) gX8_cut_X2_put (by rfl) rfl rfl (by decide +kernel) ⟨⟨(Nat.le_of_ble_eq_true rfl), (Nat.le_of_ble_eq_true rfl)⟩, (Nat.le_of_ble_eq_true rfl), (Nat.le_of_ble_eq_true rfl)⟩ (Nat.le_of_ble_eq_true rfl) rfl rfl (sb_of [7, 8, 0, 1, 2, 3, 4, 5, 6] rfl rfl) rfl dX8_cut_24 (fun v X1 hp => ?_)
      obtain ⟨w6, rfl, rfl, h⟩ := hp
      refine xw_X (sb_of [2, 3, 4, 5, 6, 7, 8, 0, 1] rfl rfl) (show ww x (W_X8_cut (xg x) a0 a1 a2 a3 a4 a5 a6 a7 a8 a9 a10 a11 a12 a13 a14 v0 v1 v2 w6) [(0, .ref a0), (1, .long p1), (3, .int p3)] 2 12 27 [] from ?_)
      refine xw_aload_n hf (pc := 27) dX8_cut_27 rfl 0 rfl ?_
      refine xw_aload_n hf (pc := 28) dX8_cut_28 rfl 0 rfl ?_
      refine xw_get hf (pc := 29) dX8_cut_29 (T := TX8) mi_X8_cut_X8 rfl 0 rfl 4 (by decide) rfl mw_X8_cut_0 rfl ?_
      refine xw_callVX hf (pc := 32) (nA := 1) (Xr := [(a4, .inr (1, [.ref a13, .ref a5, .ref a14, .int v1])), (a5, .inr (3, [.ref a6])), (a6, .inl (gI (xg x), 32, .inl v2))]) (rest := []) (T := TX8) (c_X8_requireRoom (xl x) (xg x) hst a0 a1 a2 a3 a7 a8 a9 a4 a10 a7 a11 a12 v0 w6 h) gX8_cut_X8_requireRoom (by rfl) rfl rfl (by decide +kernel) ⟨⟨(Nat.le_of_ble_eq_true rfl), (Nat.le_of_ble_eq_true rfl)⟩, (Nat.le_of_ble_eq_true rfl), (Nat.le_of_ble_eq_true rfl)⟩ (Nat.le_of_ble_eq_true rfl) rfl rfl (sb_of [0, 1, 2, 3, 7, 8, 4, 5, 6] rfl rfl) rfl dX8_cut_32 (fun v X1 hp => ?_) (fun E13 X1 hp => ?_)
      · obtain ⟨rfl, rfl, h⟩ := hp
        refine xw_X (sb_of [0, 1, 2, 3, 6, 7, 8, 4, 5] rfl rfl) (show ww x (W_X8_cut (xg x) a0 a1 a2 a3 a4 a5 a6 a7 a8 a9 a10 a11 a12 a13 a14 v0 v1 v2 w6) [(0, .ref a0), (1, .long p1), (3, .int p3)] 3 18 35 [] from ?_)
        refine xw_aload_n hf (pc := 35) dX8_cut_35 rfl 0 rfl ?_
        refine xw_get hf (pc := 36) dX8_cut_36 (T := TX8) mi_X8_cut_X8 rfl 0 rfl 1 (by decide) rfl mw_X8_cut_1 rfl ?_
        refine xw_get hf (pc := 39) dX8_cut_39 (T := TX5) mi_X8_cut_X5 rfl 1 rfl 0 (by decide) rfl mw_X8_cut_2 rfl ?_
        refine xw_aload_n hf (pc := 42) dX8_cut_42 rfl 0 rfl ?_
        refine xw_get hf (pc := 43) dX8_cut_43 (T := TX8) mi_X8_cut_X8 rfl 0 rfl 4 (by decide) rfl mw_X8_cut_0 rfl ?_
        refine xw_callV hf (pc := 46) (nA := 1) (Xr := [(a0, .inr (8, [.ref a9, .ref a1, .ref a4, .ref a10, .ref a7])), (a1, .inr (6, [.ref a2, .ref a11, .ref a12])), (a4, .inr (1, [.ref a13, .ref a5, .ref a14, .int v1])), (a5, .inr (3, [.ref a6])), (a6, .inl (gI (xg x), 32, .inl v2))]) (rest := []) (T := TX2) (c_X2_putAll (xl x) (xg x) a2 a3 a7 a8 v0 w6 h) gX8_cut_X2_putAll (by rfl) rfl rfl (by decide +kernel) ⟨⟨(Nat.le_of_ble_eq_true rfl), (Nat.le_of_ble_eq_true rfl)⟩, (Nat.le_of_ble_eq_true rfl), (Nat.le_of_ble_eq_true rfl)⟩ (Nat.le_of_ble_eq_true rfl) rfl rfl (sb_of [2, 3, 7, 8, 0, 1, 4, 5, 6] rfl rfl) rfl dX8_cut_46 (fun v X1 hp => ?_)
        obtain ⟨w9, rfl, rfl, h⟩ := hp
        refine xw_X (sb_of [4, 5, 0, 1, 6, 7, 8, 2, 3] rfl rfl) (show ww x (W_X8_cut (xg x) a0 a1 a2 a3 a4 a5 a6 a7 a8 a9 a10 a11 a12 a13 a14 w9 v1 v2 w6) [(0, .ref a0), (1, .long p1), (3, .int p3)] 3 18 49 [] from ?_)
        refine xw_aload_n hf (pc := 49) dX8_cut_49 rfl 0 rfl ?_
        refine xw_get hf (pc := 50) dX8_cut_50 (T := TX8) mi_X8_cut_X8 rfl 0 rfl 2 (by decide) rfl mw_X8_cut_3 rfl ?_
        refine xw_get hf (pc := 53) dX8_cut_53 (T := TX0) mi_X8_cut_X0 rfl 4 rfl 1 (by decide) rfl mw_X8_cut_4 rfl ?_
        refine xw_aload_n hf (pc := 56) dX8_cut_56 rfl 0 rfl ?_
        refine xw_get hf (pc := 57) dX8_cut_57 (T := TX8) mi_X8_cut_X8 rfl 0 rfl 4 (by decide) rfl mw_X8_cut_0 rfl ?_
        refine xw_callV hf (pc := 60) (nA := 1) (Xr := [(a0, .inr (8, [.ref a9, .ref a1, .ref a4, .ref a10, .ref a7])), (a1, .inr (6, [.ref a2, .ref a11, .ref a12])), (a2, .inr (3, [.ref a3])), (a3, .inl (gI (xg x), 32, .inl w9)), (a4, .inr (1, [.ref a13, .ref a5, .ref a14, .int v1]))]) (rest := []) (T := TX2) (c_X2_putAll (xl x) (xg x) a5 a6 a7 a8 v2 w6 h) gX8_cut_X2_putAll (by rfl) rfl rfl (by decide +kernel) ⟨⟨(Nat.le_of_ble_eq_true rfl), (Nat.le_of_ble_eq_true rfl)⟩, (Nat.le_of_ble_eq_true rfl), (Nat.le_of_ble_eq_true rfl)⟩ (Nat.le_of_ble_eq_true rfl) rfl rfl (sb_of [5, 6, 7, 8, 0, 1, 2, 3, 4] rfl rfl) rfl dX8_cut_60 (fun v X1 hp => ?_)
        obtain ⟨w11, rfl, rfl, h⟩ := hp
        refine xw_X (sb_of [4, 5, 6, 7, 8, 0, 1, 2, 3] rfl rfl) (show ww x (W_X8_cut (xg x) a0 a1 a2 a3 a4 a5 a6 a7 a8 a9 a10 a11 a12 a13 a14 w9 v1 w11 w6) [(0, .ref a0), (1, .long p1), (3, .int p3)] 3 18 63 [] from ?_)
        refine xw_aload_n hf (pc := 63) dX8_cut_63 rfl 0 rfl ?_
        refine xw_get hf (pc := 64) dX8_cut_64 (T := TX8) mi_X8_cut_X8 rfl 0 rfl 1 (by decide) rfl mw_X8_cut_1 rfl ?_
        refine xw_get hf (pc := 67) dX8_cut_67 (T := TX5) mi_X8_cut_X5 rfl 1 rfl 0 (by decide) rfl mw_X8_cut_2 rfl ?_
        refine xw_callV hf (pc := 70) (nA := 0) (Xr := [(a0, .inr (8, [.ref a9, .ref a1, .ref a4, .ref a10, .ref a7])), (a1, .inr (6, [.ref a2, .ref a11, .ref a12])), (a4, .inr (1, [.ref a13, .ref a5, .ref a14, .int v1])), (a5, .inr (3, [.ref a6])), (a6, .inl (gI (xg x), 32, .inl w11)), (a7, .inr (3, [.ref a8])), (a8, .inl (gI (xg x), 32, .inl w6))]) (rest := []) (T := TX2) (c_X2_total (xl x) (xg x) a2 a3 w9 h) gX8_cut_X2_total (by rfl) rfl rfl (by decide +kernel) ⟨⟨(Nat.le_of_ble_eq_true rfl), (Nat.le_of_ble_eq_true rfl)⟩, (Nat.le_of_ble_eq_true rfl), (Nat.le_of_ble_eq_true rfl)⟩ (Nat.le_of_ble_eq_true rfl) rfl rfl (sb_of [2, 3, 0, 1, 4, 5, 6, 7, 8] rfl rfl) rfl dX8_cut_70 (fun v X1 hp => ?_)
        obtain ⟨r12, rfl, rfl, h⟩ := hp
        refine xw_X (sb_of [2, 3, 0, 1, 4, 5, 6, 7, 8] rfl rfl) (show ww x (W_X8_cut (xg x) a0 a1 a2 a3 a4 a5 a6 a7 a8 a9 a10 a11 a12 a13 a14 w9 v1 w11 w6) [(0, .ref a0), (1, .long p1), (3, .int p3)] 3 18 73 [.int r12] from ?_)
        exact xw_iret hf (pc := 73) dX8_cut_73 hr (Nat.le_of_ble_eq_true rfl) (Nat.le_of_ble_eq_true rfl) ⟨_, _, _, _, rfl, rfl, h⟩
      · obtain ⟨rfl, h⟩ := hp
        refine xe_X (sb_of [0, 1, 2, 3, 6, 7, 8, 4, 5] rfl rfl) (show wx x (W_X8_cut (xg x) a0 a1 a2 a3 a4 a5 a6 a7 a8 a9 a10 a11 a12 a13 a14 v0 v1 v2 w6) [(0, .ref a0), (1, .long p1), (3, .int p3)] 3 18 32 E13 [] from ?_)
        exact xw_out hx (Nat.le_of_ble_eq_true rfl) (Nat.le_of_ble_eq_true rfl) ⟨_, _, _, rfl, h⟩
    · obtain ⟨rfl, h⟩ := hp
      show wx x (W_X8_cut (xg x) a0 a1 a2 a3 a4 a5 a6 a7 a8 a9 a10 a11 a12 a13 a14 v0 v1 v2 v3) [(0, .ref a0), (1, .long p1), (3, .int p3)] 2 12 8 E14 []
      exact xw_out hx (Nat.le_of_ble_eq_true rfl) (Nat.le_of_ble_eq_true rfl) ⟨_, _, _, rfl, h⟩
  · obtain ⟨rfl, h⟩ := hp
    show wx x (W_X8_cut (xg x) a0 a1 a2 a3 a4 a5 a6 a7 a8 a9 a10 a11 a12 a13 a14 v0 v1 v2 v3) [(0, .ref a0), (1, .long p1), (3, .int p3)] 1 6 1 E15 []
    exact xw_out hx (Nat.le_of_ble_eq_true rfl) (Nat.le_of_ble_eq_true rfl) ⟨_, _, _, rfl, h⟩
abbrev W_X8_stockOf (g : Gx) (a0 a1 a2 a3 a4 a5 a6 a7 a8 a9 : Nat) (v0 : Nat → Int32) : va_W := [(a0, .inr (8, [.ref a4, .ref a1, .ref a5, .ref a6, .ref a7])), (a1, .inr (6, [.ref a2, .ref a8, .ref a9])), (a2, .inr (3, [.ref a3])), (a3, .inl (gI g, 32, .inl v0))]
abbrev rm_X8_stockOf : Room := { frames := 9, cells := 1, slots := 6, locals := 142 }
theorem mw_X8_stockOf_0 : (Cond.fieldLink RX8 19 "AnagramButcher" "stock" "LAnagramButcher$Stock;" : Cond) ∈ wsX8_stockOf := (List.mem_cons_of_mem _ (List.mem_append_left _ (List.mem_append_left _ (List.mem_append_left _ (List.mem_append_left _ (List.mem_of_getElem? (i := 0) rfl))))))
theorem mw_X8_stockOf_1 : (Cond.fieldLink RX8 122 "AnagramButcher$Stock" "pieces" "LAnagramButcher$Pile;" : Cond) ∈ wsX8_stockOf := (List.mem_cons_of_mem _ (List.mem_append_left _ (List.mem_append_left _ (List.mem_append_left _ (List.mem_append_left _ (List.mem_of_getElem? (i := 1) rfl))))))
theorem mi_X8_stockOf_X8 : ∀ w ∈ wsX80, w ∈ wsX8_stockOf := fun _ h => (List.mem_cons_of_mem _ (List.mem_append_left _ (List.mem_append_left _ (List.mem_append_left _ (List.mem_append_right _ h)))))
theorem mi_X8_stockOf_X5 : ∀ w ∈ wsX50, w ∈ wsX8_stockOf := fun _ h => (List.mem_cons_of_mem _ (List.mem_append_left _ (List.mem_append_left _ (List.mem_append_right _ h))))
set_option maxHeartbeats 4000000 in
set_option maxRecDepth 100000 in
theorem c_X8_stockOf (l : Launch) (g : Gx) (hst : l.stackTraces = false) (a0 a1 a2 a3 a4 a5 a6 a7 a8 a9 : Nat) (v0 : Nat → Int32) (p1 : Int32) {post : Int32 → Prop} {postX : String → Prop} (h : P_X8_stockOf post postX p1 v0) : ce l g yX8_stockOf wsX8_stockOf (rm_X8_stockOf) [.ref a0, .int p1] (W_X8_stockOf g a0 a1 a2 a3 a4 a5 a6 a7 a8 a9 v0) (fun v X1 => ∃ (r : Int32), v = some (.int r) ∧ X1 = W_X8_stockOf g a0 a1 a2 a3 a4 a5 a6 a7 a8 a9 v0 ∧ post r) (fun E X1 => X1 = W_X8_stockOf g a0 a1 a2 a3 a4 a5 a6 a7 a8 a9 v0 ∧ postX E ) := by
  refine ce_of (cc := cX8_stockOf) (nL := 2) (ret := (some .int)) (by decide +kernel) rfl (Nat.le_of_ble_eq_true rfl) ?_
  intro x hf hl hg hn hi hr hx
  subst hl
  subst hg
  show ww x (W_X8_stockOf (xg x) a0 a1 a2 a3 a4 a5 a6 a7 a8 a9 v0) [(0, .ref a0), (1, .int p1)] 0 0 0 []
  unfold P_X8_stockOf at h
  refine xw_iload_n hf (pc := 0) dX8_stockOf_0 rfl 1 rfl ?_
  refine xw_callSX hf (pc := 1) (nA := 1) (Xr := W_X8_stockOf (xg x) a0 a1 a2 a3 a4 a5 a6 a7 a8 a9 v0) (rest := []) (c_X8_requireLetter (xl x) (xg x) hst p1 h) gX8_stockOf_X8_requireLetter (by rfl) rfl (by decide +kernel) ⟨⟨(Nat.le_of_ble_eq_true rfl), (Nat.le_of_ble_eq_true rfl)⟩, (Nat.le_of_ble_eq_true rfl), (Nat.le_of_ble_eq_true rfl)⟩ (Nat.le_of_ble_eq_true rfl) (sb_rf _) rfl dX8_stockOf_1 (fun v X1 hp => ?_) (fun E3 X1 hp => ?_)
  · obtain ⟨rfl, rfl, h⟩ := hp
    show ww x (W_X8_stockOf (xg x) a0 a1 a2 a3 a4 a5 a6 a7 a8 a9 v0) [(0, .ref a0), (1, .int p1)] 1 6 4 []
    refine xw_aload_n hf (pc := 4) dX8_stockOf_4 rfl 0 rfl ?_
    refine xw_get hf (pc := 5) dX8_stockOf_5 (T := TX8) mi_X8_stockOf_X8 rfl 0 rfl 1 (by decide) rfl mw_X8_stockOf_0 rfl ?_
    refine xw_get hf (pc := 8) dX8_stockOf_8 (T := TX5) mi_X8_stockOf_X5 rfl 1 rfl 0 (by decide) rfl mw_X8_stockOf_1 rfl ?_
    refine xw_iload_n hf (pc := 11) dX8_stockOf_11 rfl 1 rfl ?_
    refine xw_callV hf (pc := 12) (nA := 1) (Xr := [(a0, .inr (8, [.ref a4, .ref a1, .ref a5, .ref a6, .ref a7])), (a1, .inr (6, [.ref a2, .ref a8, .ref a9]))]) (rest := []) (T := TX2) (c_X2_count (xl x) (xg x) a2 a3 v0 p1 h) gX8_stockOf_X2_count (by rfl) rfl rfl (by decide +kernel) ⟨⟨(Nat.le_of_ble_eq_true rfl), (Nat.le_of_ble_eq_true rfl)⟩, (Nat.le_of_ble_eq_true rfl), (Nat.le_of_ble_eq_true rfl)⟩ (Nat.le_of_ble_eq_true rfl) rfl rfl (sb_of [2, 3, 0, 1] rfl rfl) rfl dX8_stockOf_12 (fun v X1 hp => ?_)
    obtain ⟨r2, rfl, rfl, h⟩ := hp
    refine xw_X (sb_of [2, 3, 0, 1] rfl rfl) (show ww x (W_X8_stockOf (xg x) a0 a1 a2 a3 a4 a5 a6 a7 a8 a9 v0) [(0, .ref a0), (1, .int p1)] 1 6 15 [.int r2] from ?_)
    exact xw_iret hf (pc := 15) dX8_stockOf_15 hr (Nat.le_of_ble_eq_true rfl) (Nat.le_of_ble_eq_true rfl) ⟨_, rfl, rfl, h⟩
  · obtain ⟨rfl, h⟩ := hp
    show wx x (W_X8_stockOf (xg x) a0 a1 a2 a3 a4 a5 a6 a7 a8 a9 v0) [(0, .ref a0), (1, .int p1)] 1 6 1 E3 []
    exact xw_out hx (Nat.le_of_ble_eq_true rfl) (Nat.le_of_ble_eq_true rfl) ⟨rfl, h⟩
abbrev W_X8_totalStock (g : Gx) (a0 a1 a2 a3 a4 a5 a6 a7 a8 a9 : Nat) (v0 : Nat → Int32) : va_W := [(a0, .inr (8, [.ref a4, .ref a1, .ref a5, .ref a6, .ref a7])), (a1, .inr (6, [.ref a2, .ref a8, .ref a9])), (a2, .inr (3, [.ref a3])), (a3, .inl (gI g, 32, .inl v0))]
abbrev rm_X8_totalStock : Room := { frames := 1, cells := 0, slots := 0, locals := 22 }
theorem mw_X8_totalStock_0 : (Cond.fieldLink RX8 19 "AnagramButcher" "stock" "LAnagramButcher$Stock;" : Cond) ∈ wsX8_totalStock := (List.mem_cons_of_mem _ (List.mem_append_left _ (List.mem_append_left _ (List.mem_append_left _ (List.mem_of_getElem? (i := 0) rfl)))))
theorem mw_X8_totalStock_1 : (Cond.fieldLink RX8 122 "AnagramButcher$Stock" "pieces" "LAnagramButcher$Pile;" : Cond) ∈ wsX8_totalStock := (List.mem_cons_of_mem _ (List.mem_append_left _ (List.mem_append_left _ (List.mem_append_left _ (List.mem_of_getElem? (i := 1) rfl)))))
theorem mi_X8_totalStock_X8 : ∀ w ∈ wsX80, w ∈ wsX8_totalStock := fun _ h => (List.mem_cons_of_mem _ (List.mem_append_left _ (List.mem_append_left _ (List.mem_append_right _ h))))
theorem mi_X8_totalStock_X5 : ∀ w ∈ wsX50, w ∈ wsX8_totalStock := fun _ h => (List.mem_cons_of_mem _ (List.mem_append_left _ (List.mem_append_right _ h)))
set_option maxHeartbeats 4000000 in
set_option maxRecDepth 100000 in
theorem c_X8_totalStock (l : Launch) (g : Gx) (a0 a1 a2 a3 a4 a5 a6 a7 a8 a9 : Nat) (v0 : Nat → Int32) {post : Int32 → Prop} (h : P_X8_totalStock post v0) : cm l g yX8_totalStock wsX8_totalStock (rm_X8_totalStock) [.ref a0] (W_X8_totalStock g a0 a1 a2 a3 a4 a5 a6 a7 a8 a9 v0) (fun v X1 => ∃ (r : Int32), v = some (.int r) ∧ X1 = W_X8_totalStock g a0 a1 a2 a3 a4 a5 a6 a7 a8 a9 v0 ∧ post r) := by
  refine cm_of (cc := cX8_totalStock) (nL := 1) (ret := (some .int)) (by decide +kernel) rfl (Nat.le_of_ble_eq_true rfl) ?_
  intro x hf hl hg hn hi hr
  subst hl
  subst hg
  show ww x (W_X8_totalStock (xg x) a0 a1 a2 a3 a4 a5 a6 a7 a8 a9 v0) [(0, .ref a0)] 0 0 0 []
  unfold P_X8_totalStock at h
  refine xw_aload_n hf (pc := 0) dX8_totalStock_0 rfl 0 rfl ?_
  refine xw_get hf (pc := 1) dX8_totalStock_1 (T := TX8) mi_X8_totalStock_X8 rfl 0 rfl 1 (by decide) rfl mw_X8_totalStock_0 rfl ?_
  refine xw_get hf (pc := 4) dX8_totalStock_4 (T := TX5) mi_X8_totalStock_X5 rfl 1 rfl 0 (by decide) rfl mw_X8_totalStock_1 rfl ?_
  refine xw_callV hf (pc := 7) (nA := 0) (Xr := [(a0, .inr (8, [.ref a4, .ref a1, .ref a5, .ref a6, .ref a7])), (a1, .inr (6, [.ref a2, .ref a8, .ref a9]))]) (rest := []) (T := TX2) (c_X2_total (xl x) (xg x) a2 a3 v0 h) gX8_totalStock_X2_total (by rfl) rfl rfl (by decide +kernel) ⟨⟨(Nat.le_of_ble_eq_true rfl), (Nat.le_of_ble_eq_true rfl)⟩, (Nat.le_of_ble_eq_true rfl), (Nat.le_of_ble_eq_true rfl)⟩ (Nat.le_of_ble_eq_true rfl) rfl rfl (sb_of [2, 3, 0, 1] rfl rfl) rfl dX8_totalStock_7 (fun v X1 hp => ?_)
  obtain ⟨r1, rfl, rfl, h⟩ := hp
  refine xw_X (sb_of [2, 3, 0, 1] rfl rfl) (show ww x (W_X8_totalStock (xg x) a0 a1 a2 a3 a4 a5 a6 a7 a8 a9 v0) [(0, .ref a0)] 0 0 10 [.int r1] from ?_)
  exact xw_iret hf (pc := 10) dX8_totalStock_10 hr (Nat.le_of_ble_eq_true rfl) (Nat.le_of_ble_eq_true rfl) ⟨_, rfl, rfl, h⟩
abbrev W_X8_setBasePrice (g : Gx) (a0 a1 a2 a3 a4 a5 a6 a7 a8 : Nat) (v0 : Nat → Int32) : va_W := [(a0, .inr (8, [.ref a3, .ref a1, .ref a4, .ref a5, .ref a6])), (a1, .inr (6, [.ref a7, .ref a2, .ref a8])), (a2, .inl (gI g, 32, .inl v0))]
abbrev rm_X8_setBasePrice : Room := { frames := 9, cells := 2, slots := 12, locals := 142 }
theorem mw_X8_setBasePrice_0 : (Cond.fieldLink RX8 19 "AnagramButcher" "stock" "LAnagramButcher$Stock;" : Cond) ∈ wsX8_setBasePrice := (List.mem_cons_of_mem _ (List.mem_append_left _ (List.mem_append_left _ (List.mem_append_left _ (List.mem_of_getElem? (i := 0) rfl)))))
theorem mi_X8_setBasePrice_X8 : ∀ w ∈ wsX80, w ∈ wsX8_setBasePrice := fun _ h => (List.mem_cons_of_mem _ (List.mem_append_left _ (List.mem_append_left _ (List.mem_append_right _ h))))
set_option maxHeartbeats 4000000 in
set_option maxRecDepth 100000 in
theorem c_X8_setBasePrice (l : Launch) (g : Gx) (hst : l.stackTraces = false) (a0 a1 a2 a3 a4 a5 a6 a7 a8 : Nat) (v0 : Nat → Int32) (p1 : Int32) (p2 : Int32) {post : Int32 → (Nat → Int32) → Prop} {postX : String → (Nat → Int32) → Prop} (h : P_X8_setBasePrice post postX p1 p2 v0) : ce l g yX8_setBasePrice wsX8_setBasePrice (rm_X8_setBasePrice) [.ref a0, .int p1, .int p2] (W_X8_setBasePrice g a0 a1 a2 a3 a4 a5 a6 a7 a8 v0) (fun v X1 => ∃ (r : Int32) (uv0 : Nat → Int32), v = some (.int r) ∧ X1 = W_X8_setBasePrice g a0 a1 a2 a3 a4 a5 a6 a7 a8 uv0 ∧ post r uv0) (fun E X1 => ∃ (uv0 : Nat → Int32), X1 = W_X8_setBasePrice g a0 a1 a2 a3 a4 a5 a6 a7 a8 uv0 ∧ postX E uv0) := by
  refine ce_of (cc := cX8_setBasePrice) (nL := 3) (ret := (some .int)) (by decide +kernel) rfl (Nat.le_of_ble_eq_true rfl) ?_
  intro x hf hl hg hn hi hr hx
  subst hl
  subst hg
  show ww x (W_X8_setBasePrice (xg x) a0 a1 a2 a3 a4 a5 a6 a7 a8 v0) [(0, .ref a0), (1, .int p1), (2, .int p2)] 0 0 0 []
  unfold P_X8_setBasePrice at h
  refine xw_iload_n hf (pc := 0) dX8_setBasePrice_0 rfl 1 rfl ?_
  refine xw_callSX hf (pc := 1) (nA := 1) (Xr := W_X8_setBasePrice (xg x) a0 a1 a2 a3 a4 a5 a6 a7 a8 v0) (rest := []) (c_X8_requireLetter (xl x) (xg x) hst p1 h) gX8_setBasePrice_X8_requireLetter (by rfl) rfl (by decide +kernel) ⟨⟨(Nat.le_of_ble_eq_true rfl), (Nat.le_of_ble_eq_true rfl)⟩, (Nat.le_of_ble_eq_true rfl), (Nat.le_of_ble_eq_true rfl)⟩ (Nat.le_of_ble_eq_true rfl) (sb_rf _) rfl dX8_setBasePrice_1 (fun v X1 hp => ?_) (fun E6 X1 hp => ?_)
  · obtain ⟨rfl, rfl, h⟩ := hp
    show ww x (W_X8_setBasePrice (xg x) a0 a1 a2 a3 a4 a5 a6 a7 a8 v0) [(0, .ref a0), (1, .int p1), (2, .int p2)] 1 6 4 []
    refine xw_iload_n hf (pc := 4) dX8_setBasePrice_4 rfl 2 rfl ?_
    refine xw_iconst hf (pc := 5) dX8_setBasePrice_5 (v := 1) (by decide) ?_
    refine xw_sipush hf (pc := 6) dX8_setBasePrice_6 (v := 999) (by decide) ?_
    refine xw_callSX hf (pc := 9) (nA := 3) (Xr := W_X8_setBasePrice (xg x) a0 a1 a2 a3 a4 a5 a6 a7 a8 v0) (rest := []) (c_X8_requireRange (xl x) (xg x) hst p2 1 999 h) gX8_setBasePrice_X8_requireRange (by rfl) rfl (by decide +kernel) ⟨⟨(Nat.le_of_ble_eq_true rfl), (Nat.le_of_ble_eq_true rfl)⟩, (Nat.le_of_ble_eq_true rfl), (Nat.le_of_ble_eq_true rfl)⟩ (Nat.le_of_ble_eq_true rfl) (sb_rf _) rfl dX8_setBasePrice_9 (fun v X1 hp => ?_) (fun E5 X1 hp => ?_)
    · obtain ⟨rfl, rfl, h⟩ := hp
      show ww x (W_X8_setBasePrice (xg x) a0 a1 a2 a3 a4 a5 a6 a7 a8 v0) [(0, .ref a0), (1, .int p1), (2, .int p2)] 2 12 12 []
      refine xw_aload_n hf (pc := 12) dX8_setBasePrice_12 rfl 0 rfl ?_
      refine xw_get hf (pc := 13) dX8_setBasePrice_13 (T := TX8) mi_X8_setBasePrice_X8 rfl 0 rfl 1 (by decide) rfl mw_X8_setBasePrice_0 rfl ?_
      refine xw_iload_n hf (pc := 16) dX8_setBasePrice_16 rfl 1 rfl ?_
      refine xw_iload_n hf (pc := 17) dX8_setBasePrice_17 rfl 2 rfl ?_
      refine xw_callV hf (pc := 18) (nA := 2) (Xr := [(a0, .inr (8, [.ref a3, .ref a1, .ref a4, .ref a5, .ref a6]))]) (rest := []) (T := TX5) (c_X5_changeBasePrice (xl x) (xg x) a1 a2 a7 a8 v0 p1 p2 h) gX8_setBasePrice_X5_changeBasePrice (by rfl) rfl rfl (by decide +kernel) ⟨⟨(Nat.le_of_ble_eq_true rfl), (Nat.le_of_ble_eq_true rfl)⟩, (Nat.le_of_ble_eq_true rfl), (Nat.le_of_ble_eq_true rfl)⟩ (Nat.le_of_ble_eq_true rfl) rfl rfl (sb_of [1, 2, 0] rfl rfl) rfl dX8_setBasePrice_18 (fun v X1 hp => ?_)
      obtain ⟨r3, w4, rfl, rfl, h⟩ := hp
      refine xw_X (sb_of [2, 0, 1] rfl rfl) (show ww x (W_X8_setBasePrice (xg x) a0 a1 a2 a3 a4 a5 a6 a7 a8 w4) [(0, .ref a0), (1, .int p1), (2, .int p2)] 2 12 21 [.int r3] from ?_)
      exact xw_iret hf (pc := 21) dX8_setBasePrice_21 hr (Nat.le_of_ble_eq_true rfl) (Nat.le_of_ble_eq_true rfl) ⟨_, _, rfl, rfl, h⟩
    · obtain ⟨rfl, h⟩ := hp
      show wx x (W_X8_setBasePrice (xg x) a0 a1 a2 a3 a4 a5 a6 a7 a8 v0) [(0, .ref a0), (1, .int p1), (2, .int p2)] 2 12 9 E5 []
      exact xw_out hx (Nat.le_of_ble_eq_true rfl) (Nat.le_of_ble_eq_true rfl) ⟨_, rfl, h⟩
  · obtain ⟨rfl, h⟩ := hp
    show wx x (W_X8_setBasePrice (xg x) a0 a1 a2 a3 a4 a5 a6 a7 a8 v0) [(0, .ref a0), (1, .int p1), (2, .int p2)] 1 6 1 E6 []
    exact xw_out hx (Nat.le_of_ble_eq_true rfl) (Nat.le_of_ble_eq_true rfl) ⟨_, rfl, h⟩
abbrev W_X8_basePriceOf (g : Gx) (a0 a1 a2 a3 a4 a5 a6 a7 a8 : Nat) (v0 : Nat → Int32) : va_W := [(a0, .inr (8, [.ref a3, .ref a1, .ref a4, .ref a5, .ref a6])), (a1, .inr (6, [.ref a7, .ref a2, .ref a8])), (a2, .inl (gI g, 32, .inl v0))]
abbrev rm_X8_basePriceOf : Room := { frames := 9, cells := 1, slots := 6, locals := 142 }
theorem mw_X8_basePriceOf_0 : (Cond.fieldLink RX8 19 "AnagramButcher" "stock" "LAnagramButcher$Stock;" : Cond) ∈ wsX8_basePriceOf := (List.mem_cons_of_mem _ (List.mem_append_left _ (List.mem_append_left _ (List.mem_append_left _ (List.mem_of_getElem? (i := 0) rfl)))))
theorem mi_X8_basePriceOf_X8 : ∀ w ∈ wsX80, w ∈ wsX8_basePriceOf := fun _ h => (List.mem_cons_of_mem _ (List.mem_append_left _ (List.mem_append_left _ (List.mem_append_right _ h))))
set_option maxHeartbeats 4000000 in
set_option maxRecDepth 100000 in
theorem c_X8_basePriceOf (l : Launch) (g : Gx) (hst : l.stackTraces = false) (a0 a1 a2 a3 a4 a5 a6 a7 a8 : Nat) (v0 : Nat → Int32) (p1 : Int32) {post : Int32 → Prop} {postX : String → Prop} (h : P_X8_basePriceOf post postX p1 v0) : ce l g yX8_basePriceOf wsX8_basePriceOf (rm_X8_basePriceOf) [.ref a0, .int p1] (W_X8_basePriceOf g a0 a1 a2 a3 a4 a5 a6 a7 a8 v0) (fun v X1 => ∃ (r : Int32), v = some (.int r) ∧ X1 = W_X8_basePriceOf g a0 a1 a2 a3 a4 a5 a6 a7 a8 v0 ∧ post r) (fun E X1 => X1 = W_X8_basePriceOf g a0 a1 a2 a3 a4 a5 a6 a7 a8 v0 ∧ postX E ) := by
  refine ce_of (cc := cX8_basePriceOf) (nL := 2) (ret := (some .int)) (by decide +kernel) rfl (Nat.le_of_ble_eq_true rfl) ?_
  intro x hf hl hg hn hi hr hx
  subst hl
  subst hg
  show ww x (W_X8_basePriceOf (xg x) a0 a1 a2 a3 a4 a5 a6 a7 a8 v0) [(0, .ref a0), (1, .int p1)] 0 0 0 []
  unfold P_X8_basePriceOf at h
  refine xw_iload_n hf (pc := 0) dX8_basePriceOf_0 rfl 1 rfl ?_
  refine xw_callSX hf (pc := 1) (nA := 1) (Xr := W_X8_basePriceOf (xg x) a0 a1 a2 a3 a4 a5 a6 a7 a8 v0) (rest := []) (c_X8_requireLetter (xl x) (xg x) hst p1 h) gX8_basePriceOf_X8_requireLetter (by rfl) rfl (by decide +kernel) ⟨⟨(Nat.le_of_ble_eq_true rfl), (Nat.le_of_ble_eq_true rfl)⟩, (Nat.le_of_ble_eq_true rfl), (Nat.le_of_ble_eq_true rfl)⟩ (Nat.le_of_ble_eq_true rfl) (sb_rf _) rfl dX8_basePriceOf_1 (fun v X1 hp => ?_) (fun E3 X1 hp => ?_)
  · obtain ⟨rfl, rfl, h⟩ := hp
    show ww x (W_X8_basePriceOf (xg x) a0 a1 a2 a3 a4 a5 a6 a7 a8 v0) [(0, .ref a0), (1, .int p1)] 1 6 4 []
    refine xw_aload_n hf (pc := 4) dX8_basePriceOf_4 rfl 0 rfl ?_
    refine xw_get hf (pc := 5) dX8_basePriceOf_5 (T := TX8) mi_X8_basePriceOf_X8 rfl 0 rfl 1 (by decide) rfl mw_X8_basePriceOf_0 rfl ?_
    refine xw_iload_n hf (pc := 8) dX8_basePriceOf_8 rfl 1 rfl ?_
    refine xw_callV hf (pc := 9) (nA := 1) (Xr := [(a0, .inr (8, [.ref a3, .ref a1, .ref a4, .ref a5, .ref a6]))]) (rest := []) (T := TX5) (c_X5_basePrice (xl x) (xg x) a1 a2 a7 a8 v0 p1 h) gX8_basePriceOf_X5_basePrice (by rfl) rfl rfl (by decide +kernel) ⟨⟨(Nat.le_of_ble_eq_true rfl), (Nat.le_of_ble_eq_true rfl)⟩, (Nat.le_of_ble_eq_true rfl), (Nat.le_of_ble_eq_true rfl)⟩ (Nat.le_of_ble_eq_true rfl) rfl rfl (sb_of [1, 2, 0] rfl rfl) rfl dX8_basePriceOf_9 (fun v X1 hp => ?_)
    obtain ⟨r2, rfl, rfl, h⟩ := hp
    refine xw_X (sb_of [2, 0, 1] rfl rfl) (show ww x (W_X8_basePriceOf (xg x) a0 a1 a2 a3 a4 a5 a6 a7 a8 v0) [(0, .ref a0), (1, .int p1)] 1 6 12 [.int r2] from ?_)
    exact xw_iret hf (pc := 12) dX8_basePriceOf_12 hr (Nat.le_of_ble_eq_true rfl) (Nat.le_of_ble_eq_true rfl) ⟨_, rfl, rfl, h⟩
  · obtain ⟨rfl, h⟩ := hp
    show wx x (W_X8_basePriceOf (xg x) a0 a1 a2 a3 a4 a5 a6 a7 a8 v0) [(0, .ref a0), (1, .int p1)] 1 6 1 E3 []
    exact xw_out hx (Nat.le_of_ble_eq_true rfl) (Nat.le_of_ble_eq_true rfl) ⟨rfl, h⟩
abbrev W_X8_presentPriceOf (g : Gx) (a0 a1 a2 a3 a4 a5 a6 a7 a8 a9 : Nat) (v0 : Nat → Int32) (v1 : Nat → Int32) : va_W := [(a0, .inr (8, [.ref a5, .ref a1, .ref a6, .ref a7, .ref a8])), (a1, .inr (6, [.ref a2, .ref a4, .ref a9])), (a2, .inr (3, [.ref a3])), (a3, .inl (gI g, 32, .inl v0)), (a4, .inl (gI g, 32, .inl v1))]
abbrev rm_X8_presentPriceOf : Room := { frames := 9, cells := 1, slots := 6, locals := 142 }
theorem mw_X8_presentPriceOf_0 : (Cond.fieldLink RX8 19 "AnagramButcher" "stock" "LAnagramButcher$Stock;" : Cond) ∈ wsX8_presentPriceOf := (List.mem_cons_of_mem _ (List.mem_append_left _ (List.mem_append_left _ (List.mem_append_left _ (List.mem_append_left _ (List.mem_append_left _ (List.mem_of_getElem? (l := wsX8_presentPriceOf_r1) (i := 0) rfl)))))))
theorem mi_X8_presentPriceOf_X8 : ∀ w ∈ wsX80, w ∈ wsX8_presentPriceOf := fun _ h => (List.mem_cons_of_mem _ (List.mem_append_left _ (List.mem_append_left _ (List.mem_append_left _ (List.mem_append_right _ h)))))
set_option maxHeartbeats 4000000 in
set_option maxRecDepth 100000 in
theorem c_X8_presentPriceOf (l : Launch) (g : Gx) (hst : l.stackTraces = false) (a0 a1 a2 a3 a4 a5 a6 a7 a8 a9 : Nat) (v0 : Nat → Int32) (v1 : Nat → Int32) (p1 : Int32) {post : Int32 → Prop} {postX : String → Prop} (h : P_X8_presentPriceOf post postX p1 v0 v1) : ce l g yX8_presentPriceOf wsX8_presentPriceOf (rm_X8_presentPriceOf) [.ref a0, .int p1] (W_X8_presentPriceOf g a0 a1 a2 a3 a4 a5 a6 a7 a8 a9 v0 v1) (fun v X1 => ∃ (r : Int32), v = some (.int r) ∧ X1 = W_X8_presentPriceOf g a0 a1 a2 a3 a4 a5 a6 a7 a8 a9 v0 v1 ∧ post r) (fun E X1 => X1 = W_X8_presentPriceOf g a0 a1 a2 a3 a4 a5 a6 a7 a8 a9 v0 v1 ∧ postX E ) := by
  refine ce_of (cc := cX8_presentPriceOf) (nL := 2) (ret := (some .int)) (by decide +kernel) rfl (Nat.le_of_ble_eq_true rfl) ?_
  intro x hf hl hg hn hi hr hx
  subst hl
  subst hg
  show ww x (W_X8_presentPriceOf (xg x) a0 a1 a2 a3 a4 a5 a6 a7 a8 a9 v0 v1) [(0, .ref a0), (1, .int p1)] 0 0 0 []
  unfold P_X8_presentPriceOf at h
  refine xw_iload_n hf (pc := 0) dX8_presentPriceOf_0 rfl 1 rfl ?_
  refine xw_callSX hf (pc := 1) (nA := 1) (Xr := W_X8_presentPriceOf (xg x) a0 a1 a2 a3 a4 a5 a6 a7 a8 a9 v0 v1) (rest := []) (c_X8_requireLetter (xl x) (xg x) hst p1 h) gX8_presentPriceOf_X8_requireLetter (by rfl) rfl (by decide +kernel) ⟨⟨(Nat.le_of_ble_eq_true rfl), (Nat.le_of_ble_eq_true rfl)⟩, (Nat.le_of_ble_eq_true rfl), (Nat.le_of_ble_eq_true rfl)⟩ (Nat.le_of_ble_eq_true rfl) (sb_rf _) rfl dX8_presentPriceOf_1 (fun v X1 hp => ?_) (fun E3 X1 hp => ?_)
  · obtain ⟨rfl, rfl, h⟩ := hp
    show ww x (W_X8_presentPriceOf (xg x) a0 a1 a2 a3 a4 a5 a6 a7 a8 a9 v0 v1) [(0, .ref a0), (1, .int p1)] 1 6 4 []
    refine xw_aload_n hf (pc := 4) dX8_presentPriceOf_4 rfl 0 rfl ?_
    refine xw_get hf (pc := 5) dX8_presentPriceOf_5 (T := TX8) mi_X8_presentPriceOf_X8 rfl 0 rfl 1 (by decide) rfl mw_X8_presentPriceOf_0 rfl ?_
    refine xw_iload_n hf (pc := 8) dX8_presentPriceOf_8 rfl 1 rfl ?_
    refine xw_callV hf (pc := 9) (nA := 1) (Xr := [(a0, .inr (8, [.ref a5, .ref a1, .ref a6, .ref a7, .ref a8]))]) (rest := []) (T := TX5) (c_X5_presentPrice (xl x) (xg x) a1 a2 a3 a4 a9 v0 v1 p1 h) gX8_presentPriceOf_X5_presentPrice (by rfl) rfl rfl (by decide +kernel) ⟨⟨(Nat.le_of_ble_eq_true rfl), (Nat.le_of_ble_eq_true rfl)⟩, (Nat.le_of_ble_eq_true rfl), (Nat.le_of_ble_eq_true rfl)⟩ (Nat.le_of_ble_eq_true rfl) rfl rfl (sb_of [1, 2, 3, 4, 0] rfl rfl) rfl dX8_presentPriceOf_9 (fun v X1 hp => ?_)
    obtain ⟨r2, rfl, rfl, h⟩ := hp
    refine xw_X (sb_of [4, 0, 1, 2, 3] rfl rfl) (show ww x (W_X8_presentPriceOf (xg x) a0 a1 a2 a3 a4 a5 a6 a7 a8 a9 v0 v1) [(0, .ref a0), (1, .int p1)] 1 6 12 [.int r2] from ?_)
    exact xw_iret hf (pc := 12) dX8_presentPriceOf_12 hr (Nat.le_of_ble_eq_true rfl) (Nat.le_of_ble_eq_true rfl) ⟨_, rfl, rfl, h⟩
  · obtain ⟨rfl, h⟩ := hp
    show wx x (W_X8_presentPriceOf (xg x) a0 a1 a2 a3 a4 a5 a6 a7 a8 a9 v0 v1) [(0, .ref a0), (1, .int p1)] 1 6 1 E3 []
    exact xw_out hx (Nat.le_of_ble_eq_true rfl) (Nat.le_of_ble_eq_true rfl) ⟨rfl, h⟩
abbrev W_X8_weightOf (g : Gx) (a0 a1 a2 a3 a4 a5 a6 a7 a8 : Nat) (v0 : Nat → Int32) : va_W := [(a0, .inr (8, [.ref a3, .ref a1, .ref a4, .ref a5, .ref a6])), (a1, .inr (6, [.ref a7, .ref a8, .ref a2])), (a2, .inl (gI g, 32, .inl v0))]
abbrev rm_X8_weightOf : Room := { frames := 8, cells := 1, slots := 6, locals := 121 }
theorem mw_X8_weightOf_0 : (Cond.fieldLink RX8 19 "AnagramButcher" "stock" "LAnagramButcher$Stock;" : Cond) ∈ wsX8_weightOf := (List.mem_cons_of_mem _ (List.mem_append_left _ (List.mem_append_left _ (List.mem_append_left _ (List.mem_append_left _ (List.mem_of_getElem? (l := wsX8_weightOf_r1) (i := 0) rfl))))))
theorem mi_X8_weightOf_X8 : ∀ w ∈ wsX80, w ∈ wsX8_weightOf := fun _ h => (List.mem_cons_of_mem _ (List.mem_append_left _ (List.mem_append_left _ (List.mem_append_right _ h))))
set_option maxHeartbeats 4000000 in
set_option maxRecDepth 100000 in
theorem c_X8_weightOf (l : Launch) (g : Gx) (hst : l.stackTraces = false) (a0 a1 a2 a3 a4 a5 a6 a7 a8 : Nat) (v0 : Nat → Int32) (p1 : Int64) {post : Int32 → Prop} {postX : String → Prop} (h : P_X8_weightOf post postX p1 v0) : ce l g yX8_weightOf wsX8_weightOf (rm_X8_weightOf) [.ref a0, .long p1] (W_X8_weightOf g a0 a1 a2 a3 a4 a5 a6 a7 a8 v0) (fun v X1 => ∃ (r : Int32), v = some (.int r) ∧ X1 = W_X8_weightOf g a0 a1 a2 a3 a4 a5 a6 a7 a8 v0 ∧ post r) (fun E X1 => X1 = W_X8_weightOf g a0 a1 a2 a3 a4 a5 a6 a7 a8 v0 ∧ postX E ) := by
  refine ce_of (cc := cX8_weightOf) (nL := 3) (ret := (some .int)) (by decide +kernel) rfl (Nat.le_of_ble_eq_true rfl) ?_
  intro x hf hl hg hn hi hr hx
  subst hl
  subst hg
  show ww x (W_X8_weightOf (xg x) a0 a1 a2 a3 a4 a5 a6 a7 a8 v0) [(0, .ref a0), (1, .long p1)] 0 0 0 []
  unfold P_X8_weightOf at h
  refine xw_lload_n hf (pc := 0) dX8_weightOf_0 rfl 1 rfl ?_
  refine xw_callSX hf (pc := 1) (nA := 1) (Xr := W_X8_weightOf (xg x) a0 a1 a2 a3 a4 a5 a6 a7 a8 v0) (rest := []) (c_X8_requireWord (xl x) (xg x) hst p1 h) gX8_weightOf_X8_requireWord (by rfl) rfl (by decide +kernel) ⟨⟨(Nat.le_of_ble_eq_true rfl), (Nat.le_of_ble_eq_true rfl)⟩, (Nat.le_of_ble_eq_true rfl), (Nat.le_of_ble_eq_true rfl)⟩ (Nat.le_of_ble_eq_true rfl) (sb_rf _) rfl dX8_weightOf_1 (fun v X1 hp => ?_) (fun E3 X1 hp => ?_)
  · obtain ⟨rfl, rfl, h⟩ := hp
    show ww x (W_X8_weightOf (xg x) a0 a1 a2 a3 a4 a5 a6 a7 a8 v0) [(0, .ref a0), (1, .long p1)] 1 6 4 []
    refine xw_aload_n hf (pc := 4) dX8_weightOf_4 rfl 0 rfl ?_
    refine xw_get hf (pc := 5) dX8_weightOf_5 (T := TX8) mi_X8_weightOf_X8 rfl 0 rfl 1 (by decide) rfl mw_X8_weightOf_0 rfl ?_
    refine xw_lload_n hf (pc := 8) dX8_weightOf_8 rfl 1 rfl ?_
    refine xw_callV hf (pc := 9) (nA := 1) (Xr := [(a0, .inr (8, [.ref a3, .ref a1, .ref a4, .ref a5, .ref a6]))]) (rest := []) (T := TX5) (c_X5_ounces (xl x) (xg x) a1 a2 a7 a8 v0 p1 h) gX8_weightOf_X5_ounces (by rfl) rfl rfl (by decide +kernel) ⟨⟨(Nat.le_of_ble_eq_true rfl), (Nat.le_of_ble_eq_true rfl)⟩, (Nat.le_of_ble_eq_true rfl), (Nat.le_of_ble_eq_true rfl)⟩ (Nat.le_of_ble_eq_true rfl) rfl rfl (sb_of [1, 2, 0] rfl rfl) rfl dX8_weightOf_9 (fun v X1 hp => ?_)
    obtain ⟨r2, rfl, rfl, h⟩ := hp
    refine xw_X (sb_of [2, 0, 1] rfl rfl) (show ww x (W_X8_weightOf (xg x) a0 a1 a2 a3 a4 a5 a6 a7 a8 v0) [(0, .ref a0), (1, .long p1)] 1 6 12 [.int r2] from ?_)
    exact xw_iret hf (pc := 12) dX8_weightOf_12 hr (Nat.le_of_ble_eq_true rfl) (Nat.le_of_ble_eq_true rfl) ⟨_, rfl, rfl, h⟩
  · obtain ⟨rfl, h⟩ := hp
    show wx x (W_X8_weightOf (xg x) a0 a1 a2 a3 a4 a5 a6 a7 a8 v0) [(0, .ref a0), (1, .long p1)] 1 6 1 E3 []
    exact xw_out hx (Nat.le_of_ble_eq_true rfl) (Nat.le_of_ble_eq_true rfl) ⟨rfl, h⟩
abbrev W_X8_costOf (g : Gx) (a0 a1 a2 a3 a4 a5 a6 a7 a8 a9 : Nat) (v0 : Nat → Int32) (v1 : Nat → Int32) (v2 : Nat → Int32) : va_W := [(a0, .inr (8, [.ref a6, .ref a1, .ref a7, .ref a8, .ref a9])), (a1, .inr (6, [.ref a2, .ref a4, .ref a5])), (a2, .inr (3, [.ref a3])), (a3, .inl (gI g, 32, .inl v0)), (a4, .inl (gI g, 32, .inl v1)), (a5, .inl (gI g, 32, .inl v2))]
abbrev rm_X8_costOf : Room := { frames := 8, cells := 2, slots := 12, locals := 121 }
theorem mw_X8_costOf_0 : (Cond.fieldLink RX8 19 "AnagramButcher" "stock" "LAnagramButcher$Stock;" : Cond) ∈ wsX8_costOf := (List.mem_cons_of_mem _ (List.mem_append_left _ (List.mem_append_left _ (List.mem_append_left _ (List.mem_append_left _ (List.mem_append_left _ (List.mem_append_left _ (List.mem_of_getElem? (l := wsX8_costOf_r1) (i := 2) rfl))))))))
theorem mw_X8_costOf_1 : (Cond.fieldLink RX8 122 "AnagramButcher$Stock" "pieces" "LAnagramButcher$Pile;" : Cond) ∈ wsX8_costOf := (List.mem_cons_of_mem _ (List.mem_append_left _ (List.mem_append_left _ (List.mem_append_left _ (List.mem_append_left _ (List.mem_append_left _ (List.mem_append_left _ (List.mem_of_getElem? (l := wsX8_costOf_r1) (i := 3) rfl))))))))
theorem mw_X8_costOf_2 : (Cond.classLink RX8 78 "java/util/NoSuchElementException" : Cond) ∈ wsX8_costOf := (List.mem_cons_of_mem _ (List.mem_append_left _ (List.mem_append_left _ (List.mem_append_left _ (List.mem_append_left _ (List.mem_append_left _ (List.mem_append_left _ (List.mem_of_getElem? (l := wsX8_costOf_r1) (i := 0) rfl))))))))
theorem mw_X8_costOf_3 : (Cond.initialized "java/util/NoSuchElementException" : Cond) ∈ wsX8_costOf := (List.mem_cons_of_mem _ (List.mem_append_left _ (List.mem_append_left _ (List.mem_append_left _ (List.mem_append_left _ (List.mem_append_left _ (List.mem_append_left _ (List.mem_of_getElem? (l := wsX8_costOf_r1) (i := 1) rfl))))))))
theorem mi_X8_costOf_X8 : ∀ w ∈ wsX80, w ∈ wsX8_costOf := fun _ h => (List.mem_cons_of_mem _ (List.mem_append_left _ (List.mem_append_left _ (List.mem_append_left _ (List.mem_append_left _ (List.mem_append_right _ h))))))
theorem mi_X8_costOf_X5 : ∀ w ∈ wsX50, w ∈ wsX8_costOf := fun _ h => (List.mem_cons_of_mem _ (List.mem_append_left _ (List.mem_append_left _ (List.mem_append_left _ (List.mem_append_right _ h)))))
theorem ma_X8_costOf_82 : ∀ w ∈ (vx_atS RX8 82 "java/util/NoSuchElementException" ["java/lang/RuntimeException", "java/lang/Exception"]).filter goodWord, w ∈ wsX8_costOf := fun _ h => (List.mem_cons_of_mem _ (List.mem_append_left _ (List.mem_append_right _ h)))
set_option maxHeartbeats 4000000 in
set_option maxRecDepth 100000 in
theorem c_X8_costOf (l : Launch) (g : Gx) (hst : l.stackTraces = false) (a0 a1 a2 a3 a4 a5 a6 a7 a8 a9 : Nat) (v0 : Nat → Int32) (v1 : Nat → Int32) (v2 : Nat → Int32) (p1 : Int64) {post : Int32 → (Nat → Int32) → Prop} {postX : String → (Nat → Int32) → Prop} (h : P_X8_costOf post postX p1 v0 v1 v2) : ce l g yX8_costOf wsX8_costOf (rm_X8_costOf) [.ref a0, .long p1] (W_X8_costOf g a0 a1 a2 a3 a4 a5 a6 a7 a8 a9 v0 v1 v2) (fun v X1 => ∃ (r : Int32) (uv0 : Nat → Int32), v = some (.int r) ∧ X1 = W_X8_costOf g a0 a1 a2 a3 a4 a5 a6 a7 a8 a9 uv0 v1 v2 ∧ post r uv0) (fun E X1 => ∃ (uv0 : Nat → Int32), X1 = W_X8_costOf g a0 a1 a2 a3 a4 a5 a6 a7 a8 a9 uv0 v1 v2 ∧ postX E uv0) := by
  refine ce_of (cc := cX8_costOf) (nL := 3) (ret := (some .int)) (by decide +kernel) rfl (Nat.le_of_ble_eq_true rfl) ?_
  intro x hf hl hg hn hi hr hx
  subst hl
  subst hg
  show ww x (W_X8_costOf (xg x) a0 a1 a2 a3 a4 a5 a6 a7 a8 a9 v0 v1 v2) [(0, .ref a0), (1, .long p1)] 0 0 0 []
  unfold P_X8_costOf at h
  refine xw_lload_n hf (pc := 0) dX8_costOf_0 rfl 1 rfl ?_
  refine xw_callSX hf (pc := 1) (nA := 1) (Xr := W_X8_costOf (xg x) a0 a1 a2 a3 a4 a5 a6 a7 a8 a9 v0 v1 v2) (rest := []) (c_X8_requireWord (xl x) (xg x) hst p1 h) gX8_costOf_X8_requireWord (by rfl) rfl (by decide +kernel) ⟨⟨(Nat.le_of_ble_eq_true rfl), (Nat.le_of_ble_eq_true rfl)⟩, (Nat.le_of_ble_eq_true rfl), (Nat.le_of_ble_eq_true rfl)⟩ (Nat.le_of_ble_eq_true rfl) (sb_rf _) rfl dX8_costOf_1 (fun v X1 hp => ?_) (fun E6 X1 hp => ?_)
  · obtain ⟨rfl, rfl, h⟩ := hp
    show ww x (W_X8_costOf (xg x) a0 a1 a2 a3 a4 a5 a6 a7 a8 a9 v0 v1 v2) [(0, .ref a0), (1, .long p1)] 1 6 4 []
    refine xw_aload_n hf (pc := 4) dX8_costOf_4 rfl 0 rfl ?_
    refine xw_get hf (pc := 5) dX8_costOf_5 (T := TX8) mi_X8_costOf_X8 rfl 0 rfl 1 (by decide) rfl mw_X8_costOf_0 rfl ?_
    refine xw_get hf (pc := 8) dX8_costOf_8 (T := TX5) mi_X8_costOf_X5 rfl 1 rfl 0 (by decide) rfl mw_X8_costOf_1 rfl ?_
    refine xw_lload_n hf (pc := 11) dX8_costOf_11 rfl 1 rfl ?_
    refine xw_callV hf (pc := 12) (nA := 1) (Xr := [(a0, .inr (8, [.ref a6, .ref a1, .ref a7, .ref a8, .ref a9])), (a1, .inr (6, [.ref a2, .ref a4, .ref a5])), (a4, .inl (gI (xg x), 32, .inl v1)), (a5, .inl (gI (xg x), 32, .inl v2))]) (rest := []) (T := TX2) (c_X2_holds (xl x) (xg x) a2 a3 v0 p1 h) gX8_costOf_X2_holds (by rfl) rfl rfl (by decide +kernel) ⟨⟨(Nat.le_of_ble_eq_true rfl), (Nat.le_of_ble_eq_true rfl)⟩, (Nat.le_of_ble_eq_true rfl), (Nat.le_of_ble_eq_true rfl)⟩ (Nat.le_of_ble_eq_true rfl) rfl rfl (sb_of [2, 3, 0, 1, 4, 5] rfl rfl) rfl dX8_costOf_12 (fun v X1 hp => ?_)
    obtain ⟨r2, w3, rfl, rfl, h⟩ := hp
    refine xw_X (sb_of [2, 3, 0, 1, 4, 5] rfl rfl) (show ww x (W_X8_costOf (xg x) a0 a1 a2 a3 a4 a5 a6 a7 a8 a9 w3 v1 v2) [(0, .ref a0), (1, .long p1)] 1 6 15 [.int r2] from ?_)
    refine xw_if_ne hf (pc := 15) dX8_costOf_15 (c := r2 = 0) Iff.rfl (tgt := 28) rfl ⟨fun c => ?_, fun c => ?_⟩
    · have h := h.1 c
      exact xw_throw hf hst hx (pc := 18) (rest := []) (E := sNSE) (text := "the stock has too few pieces of a letter") mw_X8_costOf_2 mw_X8_costOf_3 (by decide +kernel) (by decide +kernel) ma_X8_costOf_82 tf_82 tv_82 tw_82 dX8_costOf_18 dX8_costOf_21 dX8_costOf_22 dX8_costOf_24 dX8_costOf_27 ⟨⟨(Nat.le_of_ble_eq_true rfl), (Nat.le_of_ble_eq_true rfl)⟩, (Nat.le_of_ble_eq_true rfl), (Nat.le_of_ble_eq_true rfl)⟩ ⟨(Nat.le_of_ble_eq_true rfl), (Nat.le_of_ble_eq_true rfl)⟩ (Nat.le_of_ble_eq_true rfl) ⟨_, rfl, h⟩
    · have h := h.2 c
      refine xw_aload_n hf (pc := 28) dX8_costOf_28 rfl 0 rfl ?_
      refine xw_get hf (pc := 29) dX8_costOf_29 (T := TX8) mi_X8_costOf_X8 rfl 0 rfl 1 (by decide) rfl mw_X8_costOf_0 rfl ?_
      refine xw_lload_n hf (pc := 32) dX8_costOf_32 rfl 1 rfl ?_
      refine xw_callV hf (pc := 33) (nA := 1) (Xr := [(a0, .inr (8, [.ref a6, .ref a1, .ref a7, .ref a8, .ref a9]))]) (rest := []) (T := TX5) (c_X5_weigh (xl x) (xg x) a1 a2 a3 a4 a5 w3 v1 v2 p1 h) gX8_costOf_X5_weigh (by rfl) rfl rfl (by decide +kernel) ⟨⟨(Nat.le_of_ble_eq_true rfl), (Nat.le_of_ble_eq_true rfl)⟩, (Nat.le_of_ble_eq_true rfl), (Nat.le_of_ble_eq_true rfl)⟩ (Nat.le_of_ble_eq_true rfl) rfl rfl (sb_of [1, 2, 3, 4, 5, 0] rfl rfl) rfl dX8_costOf_33 (fun v X1 hp => ?_)
      obtain ⟨r4, w5, rfl, rfl, h⟩ := hp
      refine xw_X (sb_of [5, 0, 1, 2, 3, 4] rfl rfl) (show ww x (W_X8_costOf (xg x) a0 a1 a2 a3 a4 a5 a6 a7 a8 a9 w5 v1 v2) [(0, .ref a0), (1, .long p1)] 1 6 36 [.int r4] from ?_)
      exact xw_iret hf (pc := 36) dX8_costOf_36 hr (Nat.le_of_ble_eq_true rfl) (Nat.le_of_ble_eq_true rfl) ⟨_, _, rfl, rfl, h⟩
  · obtain ⟨rfl, h⟩ := hp
    show wx x (W_X8_costOf (xg x) a0 a1 a2 a3 a4 a5 a6 a7 a8 a9 v0 v1 v2) [(0, .ref a0), (1, .long p1)] 1 6 1 E6 []
    exact xw_out hx (Nat.le_of_ble_eq_true rfl) (Nat.le_of_ble_eq_true rfl) ⟨_, rfl, h⟩
abbrev W_X8_missingLetter (g : Gx) (a0 a1 a2 a3 a4 a5 a6 a7 a8 a9 : Nat) (v0 : Nat → Int32) : va_W := [(a0, .inr (8, [.ref a4, .ref a1, .ref a5, .ref a6, .ref a7])), (a1, .inr (6, [.ref a2, .ref a8, .ref a9])), (a2, .inr (3, [.ref a3])), (a3, .inl (gI g, 32, .inl v0))]
abbrev rm_X8_missingLetter : Room := { frames := 8, cells := 1, slots := 6, locals := 121 }
theorem mw_X8_missingLetter_0 : (Cond.fieldLink RX8 19 "AnagramButcher" "stock" "LAnagramButcher$Stock;" : Cond) ∈ wsX8_missingLetter := (List.mem_cons_of_mem _ (List.mem_append_left _ (List.mem_append_left _ (List.mem_append_left _ (List.mem_append_left _ (List.mem_append_left _ (List.mem_of_getElem? (l := wsX8_missingLetter_r1) (i := 0) rfl)))))))
theorem mw_X8_missingLetter_1 : (Cond.fieldLink RX8 122 "AnagramButcher$Stock" "pieces" "LAnagramButcher$Pile;" : Cond) ∈ wsX8_missingLetter := (List.mem_cons_of_mem _ (List.mem_append_left _ (List.mem_append_left _ (List.mem_append_left _ (List.mem_append_left _ (List.mem_append_left _ (List.mem_of_getElem? (l := wsX8_missingLetter_r1) (i := 1) rfl)))))))
theorem mi_X8_missingLetter_X8 : ∀ w ∈ wsX80, w ∈ wsX8_missingLetter := fun _ h => (List.mem_cons_of_mem _ (List.mem_append_left _ (List.mem_append_left _ (List.mem_append_left _ (List.mem_append_right _ h)))))
theorem mi_X8_missingLetter_X5 : ∀ w ∈ wsX50, w ∈ wsX8_missingLetter := fun _ h => (List.mem_cons_of_mem _ (List.mem_append_left _ (List.mem_append_left _ (List.mem_append_right _ h))))
set_option maxHeartbeats 4000000 in
set_option maxRecDepth 100000 in
theorem c_X8_missingLetter (l : Launch) (g : Gx) (hst : l.stackTraces = false) (a0 a1 a2 a3 a4 a5 a6 a7 a8 a9 : Nat) (v0 : Nat → Int32) (p1 : Int64) {post : Int32 → Prop} {postX : String → Prop} (h : P_X8_missingLetter post postX p1 v0) : ce l g yX8_missingLetter wsX8_missingLetter (rm_X8_missingLetter) [.ref a0, .long p1] (W_X8_missingLetter g a0 a1 a2 a3 a4 a5 a6 a7 a8 a9 v0) (fun v X1 => ∃ (r : Int32), v = some (.int r) ∧ X1 = W_X8_missingLetter g a0 a1 a2 a3 a4 a5 a6 a7 a8 a9 v0 ∧ post r) (fun E X1 => X1 = W_X8_missingLetter g a0 a1 a2 a3 a4 a5 a6 a7 a8 a9 v0 ∧ postX E ) := by
  refine ce_of (cc := cX8_missingLetter) (nL := 3) (ret := (some .int)) (by decide +kernel) rfl (Nat.le_of_ble_eq_true rfl) ?_
  intro x hf hl hg hn hi hr hx
  subst hl
  subst hg
  show ww x (W_X8_missingLetter (xg x) a0 a1 a2 a3 a4 a5 a6 a7 a8 a9 v0) [(0, .ref a0), (1, .long p1)] 0 0 0 []
  unfold P_X8_missingLetter at h
  refine xw_lload_n hf (pc := 0) dX8_missingLetter_0 rfl 1 rfl ?_
  refine xw_callSX hf (pc := 1) (nA := 1) (Xr := W_X8_missingLetter (xg x) a0 a1 a2 a3 a4 a5 a6 a7 a8 a9 v0) (rest := []) (c_X8_requireWord (xl x) (xg x) hst p1 h) gX8_missingLetter_X8_requireWord (by rfl) rfl (by decide +kernel) ⟨⟨(Nat.le_of_ble_eq_true rfl), (Nat.le_of_ble_eq_true rfl)⟩, (Nat.le_of_ble_eq_true rfl), (Nat.le_of_ble_eq_true rfl)⟩ (Nat.le_of_ble_eq_true rfl) (sb_rf _) rfl dX8_missingLetter_1 (fun v X1 hp => ?_) (fun E3 X1 hp => ?_)
  · obtain ⟨rfl, rfl, h⟩ := hp
    show ww x (W_X8_missingLetter (xg x) a0 a1 a2 a3 a4 a5 a6 a7 a8 a9 v0) [(0, .ref a0), (1, .long p1)] 1 6 4 []
    refine xw_aload_n hf (pc := 4) dX8_missingLetter_4 rfl 0 rfl ?_
    refine xw_get hf (pc := 5) dX8_missingLetter_5 (T := TX8) mi_X8_missingLetter_X8 rfl 0 rfl 1 (by decide) rfl mw_X8_missingLetter_0 rfl ?_
    refine xw_get hf (pc := 8) dX8_missingLetter_8 (T := TX5) mi_X8_missingLetter_X5 rfl 1 rfl 0 (by decide) rfl mw_X8_missingLetter_1 rfl ?_
    refine xw_lload_n hf (pc := 11) dX8_missingLetter_11 rfl 1 rfl ?_
    refine xw_callV hf (pc := 12) (nA := 1) (Xr := [(a0, .inr (8, [.ref a4, .ref a1, .ref a5, .ref a6, .ref a7])), (a1, .inr (6, [.ref a2, .ref a8, .ref a9]))]) (rest := []) (T := TX2) (c_X2_lacking (xl x) (xg x) a2 a3 v0 p1 h) gX8_missingLetter_X2_lacking (by rfl) rfl rfl (by decide +kernel) ⟨⟨(Nat.le_of_ble_eq_true rfl), (Nat.le_of_ble_eq_true rfl)⟩, (Nat.le_of_ble_eq_true rfl), (Nat.le_of_ble_eq_true rfl)⟩ (Nat.le_of_ble_eq_true rfl) rfl rfl (sb_of [2, 3, 0, 1] rfl rfl) rfl dX8_missingLetter_12 (fun v X1 hp => ?_)
    obtain ⟨r2, rfl, rfl, h⟩ := hp
    refine xw_X (sb_of [2, 3, 0, 1] rfl rfl) (show ww x (W_X8_missingLetter (xg x) a0 a1 a2 a3 a4 a5 a6 a7 a8 a9 v0) [(0, .ref a0), (1, .long p1)] 1 6 15 [.int r2] from ?_)
    exact xw_iret hf (pc := 15) dX8_missingLetter_15 hr (Nat.le_of_ble_eq_true rfl) (Nat.le_of_ble_eq_true rfl) ⟨_, rfl, rfl, h⟩
  · obtain ⟨rfl, h⟩ := hp
    show wx x (W_X8_missingLetter (xg x) a0 a1 a2 a3 a4 a5 a6 a7 a8 a9 v0) [(0, .ref a0), (1, .long p1)] 1 6 1 E3 []
    exact xw_out hx (Nat.le_of_ble_eq_true rfl) (Nat.le_of_ble_eq_true rfl) ⟨rfl, h⟩
abbrev W_X8_refusalOf (g : Gx) (a0 a1 a2 a3 a4 a5 a6 a7 a8 a9 a10 a11 a12 a13 : Nat) (v0 : Int32) (v1 : Nat → Int64) (v2 : Nat → Int32) (v3 : Nat → Int32) (v4 : Nat → Int32) : va_W := [(a0, .inr (8, [.ref a1, .ref a4, .ref a9, .ref a10, .ref a11])), (a1, .inr (2, [.ref a2, .ref a12, .ref a13])), (a2, .inr (7, [.ref a3, .int v0])), (a3, .inl (gJ g, 60, .inr (.inl v1))), (a4, .inr (6, [.ref a5, .ref a7, .ref a8])), (a5, .inr (3, [.ref a6])), (a6, .inl (gI g, 32, .inl v2)), (a7, .inl (gI g, 32, .inl v3)), (a8, .inl (gI g, 32, .inl v4))]
abbrev rm_X8_refusalOf : Room := { frames := 9, cells := 2, slots := 12, locals := 142 }
set_option maxHeartbeats 4000000 in
set_option maxRecDepth 100000 in
theorem c_X8_refusalOf (l : Launch) (g : Gx) (hst : l.stackTraces = false) (a0 a1 a2 a3 a4 a5 a6 a7 a8 a9 a10 a11 a12 a13 : Nat) (v0 : Int32) (v1 : Nat → Int64) (v2 : Nat → Int32) (v3 : Nat → Int32) (v4 : Nat → Int32) (p1 : Int64) (p3 : Int32) {post : Int32 → (Nat → Int32) → Prop} {postX : String → (Nat → Int32) → Prop} (h : P_X8_refusalOf post postX p1 p3 v0 v1 v2 v3 v4) : ce l g yX8_refusalOf wsX8_refusalOf (rm_X8_refusalOf) [.ref a0, .long p1, .int p3] (W_X8_refusalOf g a0 a1 a2 a3 a4 a5 a6 a7 a8 a9 a10 a11 a12 a13 v0 v1 v2 v3 v4) (fun v X1 => ∃ (r : Int32) (uv2 : Nat → Int32), v = some (.int r) ∧ X1 = W_X8_refusalOf g a0 a1 a2 a3 a4 a5 a6 a7 a8 a9 a10 a11 a12 a13 v0 v1 uv2 v3 v4 ∧ post r uv2) (fun E X1 => ∃ (uv2 : Nat → Int32), X1 = W_X8_refusalOf g a0 a1 a2 a3 a4 a5 a6 a7 a8 a9 a10 a11 a12 a13 v0 v1 uv2 v3 v4 ∧ postX E uv2) := by
  refine ce_of (cc := cX8_refusalOf) (nL := 4) (ret := (some .int)) (by decide +kernel) rfl (Nat.le_of_ble_eq_true rfl) ?_
  intro x hf hl hg hn hi hr hx
  subst hl
  subst hg
  show ww x (W_X8_refusalOf (xg x) a0 a1 a2 a3 a4 a5 a6 a7 a8 a9 a10 a11 a12 a13 v0 v1 v2 v3 v4) [(0, .ref a0), (1, .long p1), (3, .int p3)] 0 0 0 []
  unfold P_X8_refusalOf at h
  refine xw_lload_n hf (pc := 0) dX8_refusalOf_0 rfl 1 rfl ?_
  refine xw_callSX hf (pc := 1) (nA := 1) (Xr := W_X8_refusalOf (xg x) a0 a1 a2 a3 a4 a5 a6 a7 a8 a9 a10 a11 a12 a13 v0 v1 v2 v3 v4) (rest := []) (c_X8_requireWord (xl x) (xg x) hst p1 h) gX8_refusalOf_X8_requireWord (by rfl) rfl (by decide +kernel) ⟨⟨(Nat.le_of_ble_eq_true rfl), (Nat.le_of_ble_eq_true rfl)⟩, (Nat.le_of_ble_eq_true rfl), (Nat.le_of_ble_eq_true rfl)⟩ (Nat.le_of_ble_eq_true rfl) (sb_rf _) rfl dX8_refusalOf_1 (fun v X1 hp => ?_) (fun E6 X1 hp => ?_)
  · obtain ⟨rfl, rfl, h⟩ := hp
    show ww x (W_X8_refusalOf (xg x) a0 a1 a2 a3 a4 a5 a6 a7 a8 a9 a10 a11 a12 a13 v0 v1 v2 v3 v4) [(0, .ref a0), (1, .long p1), (3, .int p3)] 1 6 4 []
    refine xw_iload_n hf (pc := 4) dX8_refusalOf_4 rfl 2 rfl ?_
    refine xw_callSX hf (pc := 5) (nA := 1) (Xr := W_X8_refusalOf (xg x) a0 a1 a2 a3 a4 a5 a6 a7 a8 a9 a10 a11 a12 a13 v0 v1 v2 v3 v4) (rest := []) (c_X8_requireBudget (xl x) (xg x) hst p3 h) gX8_refusalOf_X8_requireBudget (by rfl) rfl (by decide +kernel) ⟨⟨(Nat.le_of_ble_eq_true rfl), (Nat.le_of_ble_eq_true rfl)⟩, (Nat.le_of_ble_eq_true rfl), (Nat.le_of_ble_eq_true rfl)⟩ (Nat.le_of_ble_eq_true rfl) (sb_rf _) rfl dX8_refusalOf_5 (fun v X1 hp => ?_) (fun E5 X1 hp => ?_)
    · obtain ⟨rfl, rfl, h⟩ := hp
      show ww x (W_X8_refusalOf (xg x) a0 a1 a2 a3 a4 a5 a6 a7 a8 a9 a10 a11 a12 a13 v0 v1 v2 v3 v4) [(0, .ref a0), (1, .long p1), (3, .int p3)] 2 12 8 []
      refine xw_aload_n hf (pc := 8) dX8_refusalOf_8 rfl 0 rfl ?_
      refine xw_lload_n hf (pc := 9) dX8_refusalOf_9 rfl 1 rfl ?_
      refine xw_iload_n hf (pc := 10) dX8_refusalOf_10 rfl 2 rfl ?_
      refine xw_callV hf (pc := 11) (nA := 2) (Xr := []) (rest := []) (T := TX8) (c_X8_reasonAgainst (xl x) (xg x) a0 a1 a2 a3 a4 a5 a6 a7 a8 a9 a10 a11 a12 a13 v0 v1 v2 v3 v4 p1 p3 h) gX8_refusalOf_X8_reasonAgainst (by rfl) rfl rfl (by decide +kernel) ⟨⟨(Nat.le_of_ble_eq_true rfl), (Nat.le_of_ble_eq_true rfl)⟩, (Nat.le_of_ble_eq_true rfl), (Nat.le_of_ble_eq_true rfl)⟩ (Nat.le_of_ble_eq_true rfl) rfl rfl (sb_of [0, 1, 2, 3, 4, 5, 6, 7, 8] rfl rfl) rfl dX8_refusalOf_11 (fun v X1 hp => ?_)
      obtain ⟨r3, w4, rfl, rfl, h⟩ := hp
      refine xw_X (sb_of [0, 1, 2, 3, 4, 5, 6, 7, 8] rfl rfl) (show ww x (W_X8_refusalOf (xg x) a0 a1 a2 a3 a4 a5 a6 a7 a8 a9 a10 a11 a12 a13 v0 v1 w4 v3 v4) [(0, .ref a0), (1, .long p1), (3, .int p3)] 2 12 14 [.int r3] from ?_)
      exact xw_iret hf (pc := 14) dX8_refusalOf_14 hr (Nat.le_of_ble_eq_true rfl) (Nat.le_of_ble_eq_true rfl) ⟨_, _, rfl, rfl, h⟩
    · obtain ⟨rfl, h⟩ := hp
      show wx x (W_X8_refusalOf (xg x) a0 a1 a2 a3 a4 a5 a6 a7 a8 a9 a10 a11 a12 a13 v0 v1 v2 v3 v4) [(0, .ref a0), (1, .long p1), (3, .int p3)] 2 12 5 E5 []
      exact xw_out hx (Nat.le_of_ble_eq_true rfl) (Nat.le_of_ble_eq_true rfl) ⟨_, rfl, h⟩
  · obtain ⟨rfl, h⟩ := hp
    show wx x (W_X8_refusalOf (xg x) a0 a1 a2 a3 a4 a5 a6 a7 a8 a9 a10 a11 a12 a13 v0 v1 v2 v3 v4) [(0, .ref a0), (1, .long p1), (3, .int p3)] 1 6 1 E6 []
    exact xw_out hx (Nat.le_of_ble_eq_true rfl) (Nat.le_of_ble_eq_true rfl) ⟨_, rfl, h⟩
abbrev W_X8_affordableWords (g : Gx) (a0 a1 a2 a3 a4 a5 a6 a7 a8 a9 a10 a11 a12 a13 : Nat) (v0 : Int32) (v1 : Nat → Int64) (v2 : Nat → Int32) (v3 : Nat → Int32) (v4 : Nat → Int32) : va_W := [(a0, .inr (8, [.ref a1, .ref a4, .ref a9, .ref a10, .ref a11])), (a1, .inr (2, [.ref a2, .ref a12, .ref a13])), (a2, .inr (7, [.ref a3, .int v0])), (a3, .inl (gJ g, 60, .inr (.inl v1))), (a4, .inr (6, [.ref a5, .ref a7, .ref a8])), (a5, .inr (3, [.ref a6])), (a6, .inl (gI g, 32, .inl v2)), (a7, .inl (gI g, 32, .inl v3)), (a8, .inl (gI g, 32, .inl v4))]
abbrev rm_X8_affordableWords : Room := { frames := 9, cells := 1, slots := 6, locals := 142 }
theorem mw_X8_affordableWords_0 : (Cond.fieldLink RX8 10 "AnagramButcher" "dictionary" "LAnagramButcher$Dictionary;" : Cond) ∈ wsX8_affordableWords := (List.mem_cons_of_mem _ (List.mem_append_left _ (List.mem_append_left _ (List.mem_append_left _ (List.mem_append_left _ (List.mem_append_left _ (List.mem_append_left _ (List.mem_append_left _ (List.mem_of_getElem? (l := wsX8_affordableWords_r1) (i := 0) rfl)))))))))
theorem mw_X8_affordableWords_1 : (Cond.fieldLink RX8 19 "AnagramButcher" "stock" "LAnagramButcher$Stock;" : Cond) ∈ wsX8_affordableWords := (List.mem_cons_of_mem _ (List.mem_append_left _ (List.mem_append_left _ (List.mem_append_left _ (List.mem_append_left _ (List.mem_append_left _ (List.mem_append_left _ (List.mem_append_left _ (List.mem_of_getElem? (l := wsX8_affordableWords_r1) (i := 1) rfl)))))))))
theorem mi_X8_affordableWords_X8 : ∀ w ∈ wsX80, w ∈ wsX8_affordableWords := fun _ h => (List.mem_cons_of_mem _ (List.mem_append_left _ (List.mem_append_left _ (List.mem_append_left _ (List.mem_append_left _ (List.mem_append_left _ (List.mem_append_right _ h)))))))
set_option maxHeartbeats 4000000 in
set_option maxRecDepth 100000 in
theorem w_X8_affordableWords_L8 {x : Cx} (hf : fx x (rm_X8_affordableWords) RX8 cX8_affordableWords wsX8_affordableWords) (hn : xn x = 4) {k0 n0 : Nat} (hk : k0 ≤ (rm_X8_affordableWords).cells ∧ n0 ≤ (rm_X8_affordableWords).slots) (a0 a1 a2 a3 a4 a5 a6 a7 a8 a9 a10 a11 a12 a13 : Nat) (z1 : Int32) (v0 : Int32) (v1 : Nat → Int64) (v3 : Nat → Int32) (v4 : Nat → Int32) {K53 : Int32 → (Nat → Int32) → Prop}
    (n : Nat) (z2 : Int32) (z3 : Int32) (v2 : Nat → Int32) (h : P_X8_affordableWords_L8 z1 v0 v1 v3 v4 K53 n z2 z3 v2)
    (hK53 : ∀ (y2 : Int32), ∀ (uv2 : Nat → Int32), K53 y2 uv2 → ww x (W_X8_affordableWords (xg x) a0 a1 a2 a3 a4 a5 a6 a7 a8 a9 a10 a11 a12 a13 v0 v1 uv2 v3 v4) [(2, .int y2)] k0 n0 53 []) :
    ww x (W_X8_affordableWords (xg x) a0 a1 a2 a3 a4 a5 a6 a7 a8 a9 a10 a11 a12 a13 v0 v1 v2 v3 v4) [(0, .ref a0), (1, .int z1), (2, .int z2), (3, .int z3)] k0 n0 8 [] := by
  induction n generalizing z2 z3 v2 with
  | zero => exact h.elim
  | succ n ih =>
    unfold P_X8_affordableWords_L8 at h
    refine xw_iload_n hf (pc := 8) dX8_affordableWords_8 rfl 3 rfl ?_
    refine xw_aload_n hf (pc := 9) dX8_affordableWords_9 rfl 0 rfl ?_
    refine xw_get hf (pc := 10) dX8_affordableWords_10 (T := TX8) mi_X8_affordableWords_X8 rfl 0 rfl 0 (by decide) rfl mw_X8_affordableWords_0 rfl ?_
    refine xw_callV hf (pc := 13) (nA := 0) (Xr := [(a0, .inr (8, [.ref a1, .ref a4, .ref a9, .ref a10, .ref a11])), (a2, .inr (7, [.ref a3, .int v0])), (a3, .inl (gJ (xg x), 60, .inr (.inl v1))), (a4, .inr (6, [.ref a5, .ref a7, .ref a8])), (a5, .inr (3, [.ref a6])), (a6, .inl (gI (xg x), 32, .inl v2)), (a7, .inl (gI (xg x), 32, .inl v3)), (a8, .inl (gI (xg x), 32, .inl v4))]) (rest := [.int z3]) (T := TX1) (c_X1_words (xl x) (xg x) a1 a2 a12 a13 h) gX8_affordableWords_X1_words (by rfl) rfl rfl (by decide +kernel) ⟨⟨(Nat.le_of_ble_eq_true rfl), (Nat.le_of_ble_eq_true rfl)⟩, hk.1, hk.2⟩ (Nat.le_of_ble_eq_true rfl) rfl rfl (sb_of [1, 0, 2, 3, 4, 5, 6, 7, 8] rfl rfl) rfl dX8_affordableWords_13 (fun v X1 hp => ?_)
    obtain ⟨rfl, rfl, h⟩ := hp
    refine xw_X (sb_of [1, 0, 2, 3, 4, 5, 6, 7, 8] rfl rfl) (show ww x (W_X8_affordableWords (xg x) a0 a1 a2 a3 a4 a5 a6 a7 a8 a9 a10 a11 a12 a13 v0 v1 v2 v3 v4) [(0, .ref a0), (1, .int z1), (2, .int z2), (3, .int z3)] k0 n0 16 [.ref a2, .int z3] from ?_)
    refine xw_callV hf (pc := 16) (nA := 0) (Xr := [(a0, .inr (8, [.ref a1, .ref a4, .ref a9, .ref a10, .ref a11])), (a1, .inr (2, [.ref a2, .ref a12, .ref a13])), (a3, .inl (gJ (xg x), 60, .inr (.inl v1))), (a4, .inr (6, [.ref a5, .ref a7, .ref a8])), (a5, .inr (3, [.ref a6])), (a6, .inl (gI (xg x), 32, .inl v2)), (a7, .inl (gI (xg x), 32, .inl v3)), (a8, .inl (gI (xg x), 32, .inl v4))]) (rest := [.int z3]) (T := TX6) (c_X6_size (xl x) (xg x) a2 a3 v0 h) gX8_affordableWords_X6_size (by rfl) rfl rfl (by decide +kernel) ⟨⟨(Nat.le_of_ble_eq_true rfl), (Nat.le_of_ble_eq_true rfl)⟩, hk.1, hk.2⟩ (Nat.le_of_ble_eq_true rfl) rfl rfl (sb_of [2, 0, 1, 3, 4, 5, 6, 7, 8] rfl rfl) rfl dX8_affordableWords_16 (fun v X1 hp => ?_)
    obtain ⟨r3, rfl, rfl, h⟩ := hp
    refine xw_X (sb_of [1, 2, 0, 3, 4, 5, 6, 7, 8] rfl rfl) (show ww x (W_X8_affordableWords (xg x) a0 a1 a2 a3 a4 a5 a6 a7 a8 a9 a10 a11 a12 a13 v0 v1 v2 v3 v4) [(0, .ref a0), (1, .int z1), (2, .int z2), (3, .int z3)] k0 n0 19 [.int r3, .int z3] from ?_)
    refine xw_icmp_ge hf (pc := 19) dX8_affordableWords_19 (tgt := 53) rfl ⟨fun c => ?_, fun c => ?_⟩
    · have h := h.1 c
      refine xw_L [2] rfl ?_
      exact hK53 _ _ h
    · have h := h.2 c
      refine xw_aload_n hf (pc := 22) dX8_affordableWords_22 rfl 0 rfl ?_
      refine xw_get hf (pc := 23) dX8_affordableWords_23 (T := TX8) mi_X8_affordableWords_X8 rfl 0 rfl 1 (by decide) rfl mw_X8_affordableWords_1 rfl ?_
      refine xw_aload_n hf (pc := 26) dX8_affordableWords_26 rfl 0 rfl ?_
      refine xw_get hf (pc := 27) dX8_affordableWords_27 (T := TX8) mi_X8_affordableWords_X8 rfl 0 rfl 0 (by decide) rfl mw_X8_affordableWords_0 rfl ?_
      refine xw_callV hf (pc := 30) (nA := 0) (Xr := [(a0, .inr (8, [.ref a1, .ref a4, .ref a9, .ref a10, .ref a11])), (a2, .inr (7, [.ref a3, .int v0])), (a3, .inl (gJ (xg x), 60, .inr (.inl v1))), (a4, .inr (6, [.ref a5, .ref a7, .ref a8])), (a5, .inr (3, [.ref a6])), (a6, .inl (gI (xg x), 32, .inl v2)), (a7, .inl (gI (xg x), 32, .inl v3)), (a8, .inl (gI (xg x), 32, .inl v4))]) (rest := [.ref a4]) (T := TX1) (c_X1_words (xl x) (xg x) a1 a2 a12 a13 h) gX8_affordableWords_X1_words (by rfl) rfl rfl (by decide +kernel) ⟨⟨(Nat.le_of_ble_eq_true rfl), (Nat.le_of_ble_eq_true rfl)⟩, hk.1, hk.2⟩ (Nat.le_of_ble_eq_true rfl) rfl rfl (sb_of [1, 0, 2, 3, 4, 5, 6, 7, 8] rfl rfl) rfl dX8_affordableWords_30 (fun v X1 hp => ?_)
      obtain ⟨rfl, rfl, h⟩ := hp
      refine xw_X (sb_of [1, 0, 2, 3, 4, 5, 6, 7, 8] rfl rfl) (show ww x (W_X8_affordableWords (xg x) a0 a1 a2 a3 a4 a5 a6 a7 a8 a9 a10 a11 a12 a13 v0 v1 v2 v3 v4) [(0, .ref a0), (1, .int z1), (2, .int z2), (3, .int z3)] k0 n0 33 [.ref a2, .ref a4] from ?_)
      refine xw_iload_n hf (pc := 33) dX8_affordableWords_33 rfl 3 rfl ?_
      refine xw_callV hf (pc := 34) (nA := 1) (Xr := [(a0, .inr (8, [.ref a1, .ref a4, .ref a9, .ref a10, .ref a11])), (a1, .inr (2, [.ref a2, .ref a12, .ref a13])), (a4, .inr (6, [.ref a5, .ref a7, .ref a8])), (a5, .inr (3, [.ref a6])), (a6, .inl (gI (xg x), 32, .inl v2)), (a7, .inl (gI (xg x), 32, .inl v3)), (a8, .inl (gI (xg x), 32, .inl v4))]) (rest := [.ref a4]) (T := TX6) (c_X6_word (xl x) (xg x) a2 a3 v0 v1 z3 h) gX8_affordableWords_X6_word (by rfl) rfl rfl (by decide +kernel) ⟨⟨(Nat.le_of_ble_eq_true rfl), (Nat.le_of_ble_eq_true rfl)⟩, hk.1, hk.2⟩ (Nat.le_of_ble_eq_true rfl) rfl rfl (sb_of [2, 3, 0, 1, 4, 5, 6, 7, 8] rfl rfl) rfl dX8_affordableWords_34 (fun v X1 hp => ?_)
      obtain ⟨r5, rfl, rfl, h⟩ := hp
      refine xw_X (sb_of [2, 3, 0, 1, 4, 5, 6, 7, 8] rfl rfl) (show ww x (W_X8_affordableWords (xg x) a0 a1 a2 a3 a4 a5 a6 a7 a8 a9 a10 a11 a12 a13 v0 v1 v2 v3 v4) [(0, .ref a0), (1, .int z1), (2, .int z2), (3, .int z3)] k0 n0 37 [.long r5, .ref a4] from ?_)
      refine xw_iload_n hf (pc := 37) dX8_affordableWords_37 rfl 1 rfl ?_
      refine xw_callV hf (pc := 38) (nA := 2) (Xr := [(a0, .inr (8, [.ref a1, .ref a4, .ref a9, .ref a10, .ref a11])), (a1, .inr (2, [.ref a2, .ref a12, .ref a13])), (a2, .inr (7, [.ref a3, .int v0])), (a3, .inl (gJ (xg x), 60, .inr (.inl v1)))]) (rest := []) (T := TX5) (c_X5_canSell (xl x) (xg x) a4 a5 a6 a7 a8 v2 v3 v4 r5 z1 h) gX8_affordableWords_X5_canSell (by rfl) rfl rfl (by decide +kernel) ⟨⟨(Nat.le_of_ble_eq_true rfl), (Nat.le_of_ble_eq_true rfl)⟩, hk.1, hk.2⟩ (Nat.le_of_ble_eq_true rfl) rfl rfl (sb_of [4, 5, 6, 7, 8, 0, 1, 2, 3] rfl rfl) rfl dX8_affordableWords_38 (fun v X1 hp => ?_)
      obtain ⟨r6, w7, rfl, rfl, h⟩ := hp
      refine xw_X (sb_of [5, 6, 7, 8, 0, 1, 2, 3, 4] rfl rfl) (show ww x (W_X8_affordableWords (xg x) a0 a1 a2 a3 a4 a5 a6 a7 a8 a9 a10 a11 a12 a13 v0 v1 w7 v3 v4) [(0, .ref a0), (1, .int z1), (2, .int z2), (3, .int z3)] k0 n0 41 [.int r6] from ?_)
      refine xw_if_eq hf (pc := 41) dX8_affordableWords_41 (c := r6 = 0) Iff.rfl (tgt := 47) rfl ⟨fun c => ?_, fun c => ?_⟩
      · have h := h.1 c
        refine xw_iinc hf (pc := 47) dX8_affordableWords_47 (v := z3 + 1) 3 rfl rfl [(3, .int (z3 + 1)), (0, .ref a0), (1, .int z1), (2, .int z2)] hn (by decide) rfl ?_
        refine xw_goto hf (pc := 50) dX8_affordableWords_50 (tgt := 8) rfl ?_
        refine xw_L [1, 2, 3, 0] rfl ?_
        exact ih _ _ _ h
      · have h := h.2 c
        refine xw_iinc hf (pc := 44) dX8_affordableWords_44 (v := z2 + 1) 2 rfl rfl [(2, .int (z2 + 1)), (0, .ref a0), (1, .int z1), (3, .int z3)] hn (by decide) rfl ?_
        refine xw_iinc hf (pc := 47) dX8_affordableWords_47 (v := z3 + 1) 3 rfl rfl [(3, .int (z3 + 1)), (2, .int (z2 + 1)), (0, .ref a0), (1, .int z1)] hn (by decide) rfl ?_
        refine xw_goto hf (pc := 50) dX8_affordableWords_50 (tgt := 8) rfl ?_
        refine xw_L [2, 3, 1, 0] rfl ?_
        exact ih _ _ _ h
set_option maxHeartbeats 4000000 in
set_option maxRecDepth 100000 in
theorem c_X8_affordableWords (l : Launch) (g : Gx) (hst : l.stackTraces = false) (a0 a1 a2 a3 a4 a5 a6 a7 a8 a9 a10 a11 a12 a13 : Nat) (v0 : Int32) (v1 : Nat → Int64) (v2 : Nat → Int32) (v3 : Nat → Int32) (v4 : Nat → Int32) (p1 : Int32) {post : Int32 → (Nat → Int32) → Prop} {postX : String → (Nat → Int32) → Prop} (h : P_X8_affordableWords post postX p1 v0 v1 v2 v3 v4) : ce l g yX8_affordableWords wsX8_affordableWords (rm_X8_affordableWords) [.ref a0, .int p1] (W_X8_affordableWords g a0 a1 a2 a3 a4 a5 a6 a7 a8 a9 a10 a11 a12 a13 v0 v1 v2 v3 v4) (fun v X1 => ∃ (r : Int32) (uv2 : Nat → Int32), v = some (.int r) ∧ X1 = W_X8_affordableWords g a0 a1 a2 a3 a4 a5 a6 a7 a8 a9 a10 a11 a12 a13 v0 v1 uv2 v3 v4 ∧ post r uv2) (fun E X1 => ∃ (uv2 : Nat → Int32), X1 = W_X8_affordableWords g a0 a1 a2 a3 a4 a5 a6 a7 a8 a9 a10 a11 a12 a13 v0 v1 uv2 v3 v4 ∧ postX E uv2) := by
  refine ce_of (cc := cX8_affordableWords) (nL := 4) (ret := (some .int)) (by decide +kernel) rfl (Nat.le_of_ble_eq_true rfl) ?_
  intro x hf hl hg hn hi hr hx
  subst hl
  subst hg
  show ww x (W_X8_affordableWords (xg x) a0 a1 a2 a3 a4 a5 a6 a7 a8 a9 a10 a11 a12 a13 v0 v1 v2 v3 v4) [(0, .ref a0), (1, .int p1)] 0 0 0 []
  unfold P_X8_affordableWords at h
  refine xw_iload_n hf (pc := 0) dX8_affordableWords_0 rfl 1 rfl ?_
  refine xw_callSX hf (pc := 1) (nA := 1) (Xr := W_X8_affordableWords (xg x) a0 a1 a2 a3 a4 a5 a6 a7 a8 a9 a10 a11 a12 a13 v0 v1 v2 v3 v4) (rest := []) (c_X8_requireBudget (xl x) (xg x) hst p1 h) gX8_affordableWords_X8_requireBudget (by rfl) rfl (by decide +kernel) ⟨⟨(Nat.le_of_ble_eq_true rfl), (Nat.le_of_ble_eq_true rfl)⟩, (Nat.le_of_ble_eq_true rfl), (Nat.le_of_ble_eq_true rfl)⟩ (Nat.le_of_ble_eq_true rfl) (sb_rf _) rfl dX8_affordableWords_1 (fun v X1 hp => ?_) (fun E10 X1 hp => ?_)
  · obtain ⟨rfl, rfl, h⟩ := hp
    show ww x (W_X8_affordableWords (xg x) a0 a1 a2 a3 a4 a5 a6 a7 a8 a9 a10 a11 a12 a13 v0 v1 v2 v3 v4) [(0, .ref a0), (1, .int p1)] 1 6 4 []
    refine xw_iconst hf (pc := 4) dX8_affordableWords_4 (v := 0) (by decide) ?_
    refine xw_istore_n hf (pc := 5) dX8_affordableWords_5 rfl [(2, .int 0), (0, .ref a0), (1, .int p1)] hn (by decide) rfl ?_
    refine xw_iconst hf (pc := 6) dX8_affordableWords_6 (v := 0) (by decide) ?_
    refine xw_istore_n hf (pc := 7) dX8_affordableWords_7 rfl [(3, .int 0), (2, .int 0), (0, .ref a0), (1, .int p1)] hn (by decide) rfl ?_
    refine xw_L [2, 3, 1, 0] rfl ?_
    refine w_X8_affordableWords_L8 hf hn ⟨(Nat.le_of_ble_eq_true rfl), (Nat.le_of_ble_eq_true rfl)⟩ a0 a1 a2 a3 a4 a5 a6 a7 a8 a9 a10 a11 a12 a13 p1 v0 v1 v3 v4 FU _ _ _ h (fun x8 w9 h => ?_)
    refine xw_iload_n hf (pc := 53) dX8_affordableWords_53 rfl 0 rfl ?_
    exact xw_iret hf (pc := 54) dX8_affordableWords_54 hr (Nat.le_of_ble_eq_true rfl) (Nat.le_of_ble_eq_true rfl) ⟨_, _, rfl, rfl, h⟩
  · obtain ⟨rfl, h⟩ := hp
    show wx x (W_X8_affordableWords (xg x) a0 a1 a2 a3 a4 a5 a6 a7 a8 a9 a10 a11 a12 a13 v0 v1 v2 v3 v4) [(0, .ref a0), (1, .int p1)] 1 6 1 E10 []
    exact xw_out hx (Nat.le_of_ble_eq_true rfl) (Nat.le_of_ble_eq_true rfl) ⟨_, rfl, h⟩
abbrev W_X8_bestWord (g : Gx) (a0 a1 a2 a3 a4 a5 a6 a7 a8 a9 a10 a11 a12 a13 : Nat) (v0 : Int32) (v1 : Nat → Int64) (v2 : Nat → Int32) (v3 : Nat → Int32) (v4 : Nat → Int32) : va_W := [(a0, .inr (8, [.ref a1, .ref a4, .ref a9, .ref a10, .ref a11])), (a1, .inr (2, [.ref a2, .ref a12, .ref a13])), (a2, .inr (7, [.ref a3, .int v0])), (a3, .inl (gJ g, 60, .inr (.inl v1))), (a4, .inr (6, [.ref a5, .ref a7, .ref a8])), (a5, .inr (3, [.ref a6])), (a6, .inl (gI g, 32, .inl v2)), (a7, .inl (gI g, 32, .inl v3)), (a8, .inl (gI g, 32, .inl v4))]
abbrev rm_X8_bestWord : Room := { frames := 9, cells := 1, slots := 6, locals := 142 }
set_option maxHeartbeats 4000000 in
set_option maxRecDepth 100000 in
theorem c_X8_bestWord (l : Launch) (g : Gx) (hst : l.stackTraces = false) (a0 a1 a2 a3 a4 a5 a6 a7 a8 a9 a10 a11 a12 a13 : Nat) (v0 : Int32) (v1 : Nat → Int64) (v2 : Nat → Int32) (v3 : Nat → Int32) (v4 : Nat → Int32) (p1 : Int32) {post : Int64 → (Nat → Int32) → Prop} {postX : String → (Nat → Int32) → Prop} (h : P_X8_bestWord post postX p1 v0 v1 v2 v3 v4) : ce l g yX8_bestWord wsX8_bestWord (rm_X8_bestWord) [.ref a0, .int p1] (W_X8_bestWord g a0 a1 a2 a3 a4 a5 a6 a7 a8 a9 a10 a11 a12 a13 v0 v1 v2 v3 v4) (fun v X1 => ∃ (r : Int64) (uv2 : Nat → Int32), v = some (.long r) ∧ X1 = W_X8_bestWord g a0 a1 a2 a3 a4 a5 a6 a7 a8 a9 a10 a11 a12 a13 v0 v1 uv2 v3 v4 ∧ post r uv2) (fun E X1 => ∃ (uv2 : Nat → Int32), X1 = W_X8_bestWord g a0 a1 a2 a3 a4 a5 a6 a7 a8 a9 a10 a11 a12 a13 v0 v1 uv2 v3 v4 ∧ postX E uv2) := by
  refine ce_of (cc := cX8_bestWord) (nL := 2) (ret := (some .long)) (by decide +kernel) rfl (Nat.le_of_ble_eq_true rfl) ?_
  intro x hf hl hg hn hi hr hx
  subst hl
  subst hg
  show ww x (W_X8_bestWord (xg x) a0 a1 a2 a3 a4 a5 a6 a7 a8 a9 a10 a11 a12 a13 v0 v1 v2 v3 v4) [(0, .ref a0), (1, .int p1)] 0 0 0 []
  unfold P_X8_bestWord at h
  refine xw_iload_n hf (pc := 0) dX8_bestWord_0 rfl 1 rfl ?_
  refine xw_callSX hf (pc := 1) (nA := 1) (Xr := W_X8_bestWord (xg x) a0 a1 a2 a3 a4 a5 a6 a7 a8 a9 a10 a11 a12 a13 v0 v1 v2 v3 v4) (rest := []) (c_X8_requireBudget (xl x) (xg x) hst p1 h) gX8_bestWord_X8_requireBudget (by rfl) rfl (by decide +kernel) ⟨⟨(Nat.le_of_ble_eq_true rfl), (Nat.le_of_ble_eq_true rfl)⟩, (Nat.le_of_ble_eq_true rfl), (Nat.le_of_ble_eq_true rfl)⟩ (Nat.le_of_ble_eq_true rfl) (sb_rf _) rfl dX8_bestWord_1 (fun v X1 hp => ?_) (fun E4 X1 hp => ?_)
  · obtain ⟨rfl, rfl, h⟩ := hp
    show ww x (W_X8_bestWord (xg x) a0 a1 a2 a3 a4 a5 a6 a7 a8 a9 a10 a11 a12 a13 v0 v1 v2 v3 v4) [(0, .ref a0), (1, .int p1)] 1 6 4 []
    refine xw_aload_n hf (pc := 4) dX8_bestWord_4 rfl 0 rfl ?_
    refine xw_iload_n hf (pc := 5) dX8_bestWord_5 rfl 1 rfl ?_
    refine xw_callV hf (pc := 6) (nA := 1) (Xr := []) (rest := []) (T := TX8) (c_X8_bestFor (xl x) (xg x) a0 a1 a2 a3 a4 a5 a6 a7 a8 a9 a10 a11 a12 a13 v0 v1 v2 v3 v4 p1 h) gX8_bestWord_X8_bestFor (by rfl) rfl rfl (by decide +kernel) ⟨⟨(Nat.le_of_ble_eq_true rfl), (Nat.le_of_ble_eq_true rfl)⟩, (Nat.le_of_ble_eq_true rfl), (Nat.le_of_ble_eq_true rfl)⟩ (Nat.le_of_ble_eq_true rfl) rfl rfl (sb_of [0, 1, 2, 3, 4, 5, 6, 7, 8] rfl rfl) rfl dX8_bestWord_6 (fun v X1 hp => ?_)
    obtain ⟨r2, w3, rfl, rfl, h⟩ := hp
    refine xw_X (sb_of [0, 1, 2, 3, 4, 5, 6, 7, 8] rfl rfl) (show ww x (W_X8_bestWord (xg x) a0 a1 a2 a3 a4 a5 a6 a7 a8 a9 a10 a11 a12 a13 v0 v1 w3 v3 v4) [(0, .ref a0), (1, .int p1)] 1 6 9 [.long r2] from ?_)
    exact xw_lret hf (pc := 9) dX8_bestWord_9 hr (Nat.le_of_ble_eq_true rfl) (Nat.le_of_ble_eq_true rfl) ⟨_, _, rfl, rfl, h⟩
  · obtain ⟨rfl, h⟩ := hp
    show wx x (W_X8_bestWord (xg x) a0 a1 a2 a3 a4 a5 a6 a7 a8 a9 a10 a11 a12 a13 v0 v1 v2 v3 v4) [(0, .ref a0), (1, .int p1)] 1 6 1 E4 []
    exact xw_out hx (Nat.le_of_ble_eq_true rfl) (Nat.le_of_ble_eq_true rfl) ⟨_, rfl, h⟩
abbrev W_X8_takings (g : Gx) (a0 a1 a2 a3 a4 a5 a6 a7 a8 : Nat) (v0 : Int32) : va_W := [(a0, .inr (8, [.ref a2, .ref a3, .ref a1, .ref a4, .ref a5])), (a1, .inr (1, [.ref a6, .ref a7, .ref a8, .int v0]))]
abbrev rm_X8_takings : Room := { frames := 0, cells := 0, slots := 0, locals := 0 }
theorem mw_X8_takings_0 : (Cond.fieldLink RX8 26 "AnagramButcher" "accounts" "LAnagramButcher$Accounts;" : Cond) ∈ wsX8_takings := (List.mem_cons_of_mem _ (List.mem_append_left _ (List.mem_append_left _ (List.mem_of_getElem? (i := 0) rfl))))
theorem mw_X8_takings_1 : (Cond.fieldLink RX8 243 "AnagramButcher$Accounts" "balance" "I" : Cond) ∈ wsX8_takings := (List.mem_cons_of_mem _ (List.mem_append_left _ (List.mem_append_left _ (List.mem_of_getElem? (i := 1) rfl))))
theorem mi_X8_takings_X8 : ∀ w ∈ wsX80, w ∈ wsX8_takings := fun _ h => (List.mem_cons_of_mem _ (List.mem_append_left _ (List.mem_append_right _ h)))
theorem mi_X8_takings_X0 : ∀ w ∈ wsX00, w ∈ wsX8_takings := fun _ h => (List.mem_cons_of_mem _ (List.mem_append_right _ h))
set_option maxHeartbeats 4000000 in
set_option maxRecDepth 100000 in
theorem c_X8_takings (l : Launch) (g : Gx) (a0 a1 a2 a3 a4 a5 a6 a7 a8 : Nat) (v0 : Int32) {post : Int32 → Prop} (h : P_X8_takings post v0) : cm l g yX8_takings wsX8_takings (rm_X8_takings) [.ref a0] (W_X8_takings g a0 a1 a2 a3 a4 a5 a6 a7 a8 v0) (fun v X1 => ∃ (r : Int32), v = some (.int r) ∧ X1 = W_X8_takings g a0 a1 a2 a3 a4 a5 a6 a7 a8 v0 ∧ post r) := by
  refine cm_of (cc := cX8_takings) (nL := 1) (ret := (some .int)) (by decide +kernel) rfl (Nat.le_of_ble_eq_true rfl) ?_
  intro x hf hl hg hn hi hr
  subst hl
  subst hg
  show ww x (W_X8_takings (xg x) a0 a1 a2 a3 a4 a5 a6 a7 a8 v0) [(0, .ref a0)] 0 0 0 []
  unfold P_X8_takings at h
  refine xw_aload_n hf (pc := 0) dX8_takings_0 rfl 0 rfl ?_
  refine xw_get hf (pc := 1) dX8_takings_1 (T := TX8) mi_X8_takings_X8 rfl 0 rfl 2 (by decide) rfl mw_X8_takings_0 rfl ?_
  refine xw_get hf (pc := 4) dX8_takings_4 (T := TX0) mi_X8_takings_X0 rfl 1 rfl 3 (by decide) rfl mw_X8_takings_1 rfl ?_
  exact xw_iret hf (pc := 7) dX8_takings_7 hr (Nat.le_of_ble_eq_true rfl) (Nat.le_of_ble_eq_true rfl) ⟨_, rfl, rfl, h⟩
abbrev W_X8_cameIn (g : Gx) (a0 a1 a2 a3 a4 a5 a6 a7 a8 a9 : Nat) (v0 : Int32) (v1 : Nat → Int32) : va_W := [(a0, .inr (8, [.ref a4, .ref a5, .ref a1, .ref a6, .ref a7])), (a1, .inr (1, [.ref a8, .ref a2, .ref a9, .int v0])), (a2, .inr (3, [.ref a3])), (a3, .inl (gI g, 32, .inl v1))]
abbrev rm_X8_cameIn : Room := { frames := 9, cells := 1, slots := 6, locals := 142 }
theorem mw_X8_cameIn_0 : (Cond.fieldLink RX8 26 "AnagramButcher" "accounts" "LAnagramButcher$Accounts;" : Cond) ∈ wsX8_cameIn := (List.mem_cons_of_mem _ (List.mem_append_left _ (List.mem_append_left _ (List.mem_append_left _ (List.mem_append_left _ (List.mem_of_getElem? (i := 0) rfl))))))
theorem mw_X8_cameIn_1 : (Cond.fieldLink RX8 128 "AnagramButcher$Accounts" "cameIn" "LAnagramButcher$Pile;" : Cond) ∈ wsX8_cameIn := (List.mem_cons_of_mem _ (List.mem_append_left _ (List.mem_append_left _ (List.mem_append_left _ (List.mem_append_left _ (List.mem_of_getElem? (i := 1) rfl))))))
theorem mi_X8_cameIn_X8 : ∀ w ∈ wsX80, w ∈ wsX8_cameIn := fun _ h => (List.mem_cons_of_mem _ (List.mem_append_left _ (List.mem_append_left _ (List.mem_append_left _ (List.mem_append_right _ h)))))
theorem mi_X8_cameIn_X0 : ∀ w ∈ wsX00, w ∈ wsX8_cameIn := fun _ h => (List.mem_cons_of_mem _ (List.mem_append_left _ (List.mem_append_left _ (List.mem_append_right _ h))))
set_option maxHeartbeats 4000000 in
set_option maxRecDepth 100000 in
theorem c_X8_cameIn (l : Launch) (g : Gx) (hst : l.stackTraces = false) (a0 a1 a2 a3 a4 a5 a6 a7 a8 a9 : Nat) (v0 : Int32) (v1 : Nat → Int32) (p1 : Int32) {post : Int32 → Prop} {postX : String → Prop} (h : P_X8_cameIn post postX p1 v0 v1) : ce l g yX8_cameIn wsX8_cameIn (rm_X8_cameIn) [.ref a0, .int p1] (W_X8_cameIn g a0 a1 a2 a3 a4 a5 a6 a7 a8 a9 v0 v1) (fun v X1 => ∃ (r : Int32), v = some (.int r) ∧ X1 = W_X8_cameIn g a0 a1 a2 a3 a4 a5 a6 a7 a8 a9 v0 v1 ∧ post r) (fun E X1 => X1 = W_X8_cameIn g a0 a1 a2 a3 a4 a5 a6 a7 a8 a9 v0 v1 ∧ postX E ) := by
  refine ce_of (cc := cX8_cameIn) (nL := 2) (ret := (some .int)) (by decide +kernel) rfl (Nat.le_of_ble_eq_true rfl) ?_
  intro x hf hl hg hn hi hr hx
  subst hl
  subst hg
  show ww x (W_X8_cameIn (xg x) a0 a1 a2 a3 a4 a5 a6 a7 a8 a9 v0 v1) [(0, .ref a0), (1, .int p1)] 0 0 0 []
  unfold P_X8_cameIn at h
  refine xw_iload_n hf (pc := 0) dX8_cameIn_0 rfl 1 rfl ?_
  refine xw_callSX hf (pc := 1) (nA := 1) (Xr := W_X8_cameIn (xg x) a0 a1 a2 a3 a4 a5 a6 a7 a8 a9 v0 v1) (rest := []) (c_X8_requireLetter (xl x) (xg x) hst p1 h) gX8_cameIn_X8_requireLetter (by rfl) rfl (by decide +kernel) ⟨⟨(Nat.le_of_ble_eq_true rfl), (Nat.le_of_ble_eq_true rfl)⟩, (Nat.le_of_ble_eq_true rfl), (Nat.le_of_ble_eq_true rfl)⟩ (Nat.le_of_ble_eq_true rfl) (sb_rf _) rfl dX8_cameIn_1 (fun v X1 hp => ?_) (fun E3 X1 hp => ?_)
  · obtain ⟨rfl, rfl, h⟩ := hp
    show ww x (W_X8_cameIn (xg x) a0 a1 a2 a3 a4 a5 a6 a7 a8 a9 v0 v1) [(0, .ref a0), (1, .int p1)] 1 6 4 []
    refine xw_aload_n hf (pc := 4) dX8_cameIn_4 rfl 0 rfl ?_
    refine xw_get hf (pc := 5) dX8_cameIn_5 (T := TX8) mi_X8_cameIn_X8 rfl 0 rfl 2 (by decide) rfl mw_X8_cameIn_0 rfl ?_
    refine xw_get hf (pc := 8) dX8_cameIn_8 (T := TX0) mi_X8_cameIn_X0 rfl 1 rfl 1 (by decide) rfl mw_X8_cameIn_1 rfl ?_
    refine xw_iload_n hf (pc := 11) dX8_cameIn_11 rfl 1 rfl ?_
    refine xw_callV hf (pc := 12) (nA := 1) (Xr := [(a0, .inr (8, [.ref a4, .ref a5, .ref a1, .ref a6, .ref a7])), (a1, .inr (1, [.ref a8, .ref a2, .ref a9, .int v0]))]) (rest := []) (T := TX2) (c_X2_count (xl x) (xg x) a2 a3 v1 p1 h) gX8_cameIn_X2_count (by rfl) rfl rfl (by decide +kernel) ⟨⟨(Nat.le_of_ble_eq_true rfl), (Nat.le_of_ble_eq_true rfl)⟩, (Nat.le_of_ble_eq_true rfl), (Nat.le_of_ble_eq_true rfl)⟩ (Nat.le_of_ble_eq_true rfl) rfl rfl (sb_of [2, 3, 0, 1] rfl rfl) rfl dX8_cameIn_12 (fun v X1 hp => ?_)
    obtain ⟨r2, rfl, rfl, h⟩ := hp
    refine xw_X (sb_of [2, 3, 0, 1] rfl rfl) (show ww x (W_X8_cameIn (xg x) a0 a1 a2 a3 a4 a5 a6 a7 a8 a9 v0 v1) [(0, .ref a0), (1, .int p1)] 1 6 15 [.int r2] from ?_)
    exact xw_iret hf (pc := 15) dX8_cameIn_15 hr (Nat.le_of_ble_eq_true rfl) (Nat.le_of_ble_eq_true rfl) ⟨_, rfl, rfl, h⟩
  · obtain ⟨rfl, h⟩ := hp
    show wx x (W_X8_cameIn (xg x) a0 a1 a2 a3 a4 a5 a6 a7 a8 a9 v0 v1) [(0, .ref a0), (1, .int p1)] 1 6 1 E3 []
    exact xw_out hx (Nat.le_of_ble_eq_true rfl) (Nat.le_of_ble_eq_true rfl) ⟨rfl, h⟩
abbrev W_X8_soldPieces (g : Gx) (a0 a1 a2 a3 a4 a5 a6 a7 a8 a9 : Nat) (v0 : Int32) (v1 : Nat → Int32) : va_W := [(a0, .inr (8, [.ref a4, .ref a5, .ref a1, .ref a6, .ref a7])), (a1, .inr (1, [.ref a8, .ref a9, .ref a2, .int v0])), (a2, .inr (3, [.ref a3])), (a3, .inl (gI g, 32, .inl v1))]
abbrev rm_X8_soldPieces : Room := { frames := 9, cells := 1, slots := 6, locals := 142 }
theorem mw_X8_soldPieces_0 : (Cond.fieldLink RX8 26 "AnagramButcher" "accounts" "LAnagramButcher$Accounts;" : Cond) ∈ wsX8_soldPieces := (List.mem_cons_of_mem _ (List.mem_append_left _ (List.mem_append_left _ (List.mem_append_left _ (List.mem_append_left _ (List.mem_of_getElem? (i := 0) rfl))))))
theorem mw_X8_soldPieces_1 : (Cond.fieldLink RX8 246 "AnagramButcher$Accounts" "sold" "LAnagramButcher$Pile;" : Cond) ∈ wsX8_soldPieces := (List.mem_cons_of_mem _ (List.mem_append_left _ (List.mem_append_left _ (List.mem_append_left _ (List.mem_append_left _ (List.mem_of_getElem? (i := 1) rfl))))))
theorem mi_X8_soldPieces_X8 : ∀ w ∈ wsX80, w ∈ wsX8_soldPieces := fun _ h => (List.mem_cons_of_mem _ (List.mem_append_left _ (List.mem_append_left _ (List.mem_append_left _ (List.mem_append_right _ h)))))
theorem mi_X8_soldPieces_X0 : ∀ w ∈ wsX00, w ∈ wsX8_soldPieces := fun _ h => (List.mem_cons_of_mem _ (List.mem_append_left _ (List.mem_append_left _ (List.mem_append_right _ h))))
set_option maxHeartbeats 4000000 in
set_option maxRecDepth 100000 in
theorem c_X8_soldPieces (l : Launch) (g : Gx) (hst : l.stackTraces = false) (a0 a1 a2 a3 a4 a5 a6 a7 a8 a9 : Nat) (v0 : Int32) (v1 : Nat → Int32) (p1 : Int32) {post : Int32 → Prop} {postX : String → Prop} (h : P_X8_soldPieces post postX p1 v0 v1) : ce l g yX8_soldPieces wsX8_soldPieces (rm_X8_soldPieces) [.ref a0, .int p1] (W_X8_soldPieces g a0 a1 a2 a3 a4 a5 a6 a7 a8 a9 v0 v1) (fun v X1 => ∃ (r : Int32), v = some (.int r) ∧ X1 = W_X8_soldPieces g a0 a1 a2 a3 a4 a5 a6 a7 a8 a9 v0 v1 ∧ post r) (fun E X1 => X1 = W_X8_soldPieces g a0 a1 a2 a3 a4 a5 a6 a7 a8 a9 v0 v1 ∧ postX E ) := by
  refine ce_of (cc := cX8_soldPieces) (nL := 2) (ret := (some .int)) (by decide +kernel) rfl (Nat.le_of_ble_eq_true rfl) ?_
  intro x hf hl hg hn hi hr hx
  subst hl
  subst hg
  show ww x (W_X8_soldPieces (xg x) a0 a1 a2 a3 a4 a5 a6 a7 a8 a9 v0 v1) [(0, .ref a0), (1, .int p1)] 0 0 0 []
  unfold P_X8_soldPieces at h
  refine xw_iload_n hf (pc := 0) dX8_soldPieces_0 rfl 1 rfl ?_
  refine xw_callSX hf (pc := 1) (nA := 1) (Xr := W_X8_soldPieces (xg x) a0 a1 a2 a3 a4 a5 a6 a7 a8 a9 v0 v1) (rest := []) (c_X8_requireLetter (xl x) (xg x) hst p1 h) gX8_soldPieces_X8_requireLetter (by rfl) rfl (by decide +kernel) ⟨⟨(Nat.le_of_ble_eq_true rfl), (Nat.le_of_ble_eq_true rfl)⟩, (Nat.le_of_ble_eq_true rfl), (Nat.le_of_ble_eq_true rfl)⟩ (Nat.le_of_ble_eq_true rfl) (sb_rf _) rfl dX8_soldPieces_1 (fun v X1 hp => ?_) (fun E3 X1 hp => ?_)
  · obtain ⟨rfl, rfl, h⟩ := hp
    show ww x (W_X8_soldPieces (xg x) a0 a1 a2 a3 a4 a5 a6 a7 a8 a9 v0 v1) [(0, .ref a0), (1, .int p1)] 1 6 4 []
    refine xw_aload_n hf (pc := 4) dX8_soldPieces_4 rfl 0 rfl ?_
    refine xw_get hf (pc := 5) dX8_soldPieces_5 (T := TX8) mi_X8_soldPieces_X8 rfl 0 rfl 2 (by decide) rfl mw_X8_soldPieces_0 rfl ?_
    refine xw_get hf (pc := 8) dX8_soldPieces_8 (T := TX0) mi_X8_soldPieces_X0 rfl 1 rfl 2 (by decide) rfl mw_X8_soldPieces_1 rfl ?_
    refine xw_iload_n hf (pc := 11) dX8_soldPieces_11 rfl 1 rfl ?_
    refine xw_callV hf (pc := 12) (nA := 1) (Xr := [(a0, .inr (8, [.ref a4, .ref a5, .ref a1, .ref a6, .ref a7])), (a1, .inr (1, [.ref a8, .ref a9, .ref a2, .int v0]))]) (rest := []) (T := TX2) (c_X2_count (xl x) (xg x) a2 a3 v1 p1 h) gX8_soldPieces_X2_count (by rfl) rfl rfl (by decide +kernel) ⟨⟨(Nat.le_of_ble_eq_true rfl), (Nat.le_of_ble_eq_true rfl)⟩, (Nat.le_of_ble_eq_true rfl), (Nat.le_of_ble_eq_true rfl)⟩ (Nat.le_of_ble_eq_true rfl) rfl rfl (sb_of [2, 3, 0, 1] rfl rfl) rfl dX8_soldPieces_12 (fun v X1 hp => ?_)
    obtain ⟨r2, rfl, rfl, h⟩ := hp
    refine xw_X (sb_of [2, 3, 0, 1] rfl rfl) (show ww x (W_X8_soldPieces (xg x) a0 a1 a2 a3 a4 a5 a6 a7 a8 a9 v0 v1) [(0, .ref a0), (1, .int p1)] 1 6 15 [.int r2] from ?_)
    exact xw_iret hf (pc := 15) dX8_soldPieces_15 hr (Nat.le_of_ble_eq_true rfl) (Nat.le_of_ble_eq_true rfl) ⟨_, rfl, rfl, h⟩
  · obtain ⟨rfl, h⟩ := hp
    show wx x (W_X8_soldPieces (xg x) a0 a1 a2 a3 a4 a5 a6 a7 a8 a9 v0 v1) [(0, .ref a0), (1, .int p1)] 1 6 1 E3 []
    exact xw_out hx (Nat.le_of_ble_eq_true rfl) (Nat.le_of_ble_eq_true rfl) ⟨rfl, h⟩
