abbrev W_X9_findOrder (g : Gx) (a0 a1 a2 a3 a4 a5 a6 a7 a8 a9 a10 a11 a12 a13 : Nat) (v0 : Int32) (v1 : Int32) (v2 : Int32) (v3 : Int32) (v4 : Int32) (v5 : Int32) (v6 : Nat → Int64) (v7 : Nat → Int32) (v8 : Nat → Int32) : va_W := [(a0, .inr (9, [.int v0, .ref a1, .int v1, .ref a4, .ref a5, .ref a6, .ref a7, .ref a8, .ref a9, .ref a10, .int v2, .int v3, .ref a11, .int v4, .ref a2, .ref a12, .ref a3, .ref a13, .int v5])), (a1, .inl (gJ g, 60, .inr (.inl v6))), (a2, .inl (gI g, 27, .inl v7)), (a3, .inl (gI g, 60, .inl v8))]
abbrev rm_X9_findOrder : Room := { frames := 2, cells := 0, slots := 0, locals := 51 }
theorem mw_X9_findOrder_0 : (Cond.fieldLink RX9 76 "AnagramButcherModel" "wordCount" "I" : Cond) ∈ wsX9_findOrder := (List.mem_cons_of_mem _ (List.mem_append_left _ (List.mem_of_getElem? (i := 0) rfl)))
theorem mw_X9_findOrder_1 : (Cond.fieldLink RX9 7 "AnagramButcherModel" "words" "[J" : Cond) ∈ wsX9_findOrder := (List.mem_cons_of_mem _ (List.mem_append_left _ (List.mem_of_getElem? (i := 1) rfl)))
theorem mw_X9_findOrder_2 : (Cond.fieldLink RX9 45 "AnagramButcherModel" "order" "[I" : Cond) ∈ wsX9_findOrder := (List.mem_cons_of_mem _ (List.mem_append_left _ (List.mem_of_getElem? (i := 2) rfl)))
theorem mi_X9_findOrder_X9 : ∀ w ∈ wsX90, w ∈ wsX9_findOrder := fun _ h => (List.mem_cons_of_mem _ (List.mem_append_right _ h))
set_option maxHeartbeats 4000000 in
set_option maxRecDepth 100000 in
theorem w_X9_findOrder_L27 {x : Cx} (hf : fx x (rm_X9_findOrder) RX9 cX9_findOrder wsX9_findOrder) (hn : xn x = 4) {k0 n0 : Nat} (hk : k0 ≤ (rm_X9_findOrder).cells ∧ n0 ≤ (rm_X9_findOrder).slots) (a0 a1 a2 a3 a4 a5 a6 a7 a8 a9 a10 a11 a12 a13 : Nat) (z1 : Int32) (z2 : Int32) (v6 : Nat → Int64) (v0 : Int32) (v1 : Int32) (v2 : Int32) (v3 : Int32) (v4 : Int32) (v5 : Int32) (v7 : Nat → Int32) {K80 : Int32 → (Nat → Int32) → Prop}
    (n : Nat) (z3 : Int32) (v8 : Nat → Int32) (h : P_X9_findOrder_L27 z1 z2 v6 K80 n z3 v8)
    (hK80 : ∀ (y3 : Int32), ∀ (uv8 : Nat → Int32), K80 y3 uv8 → ww x (W_X9_findOrder (xg x) a0 a1 a2 a3 a4 a5 a6 a7 a8 a9 a10 a11 a12 a13 v0 v1 v2 v3 v4 v5 v6 v7 uv8) [(0, .ref a0), (1, .int z1), (2, .int z2), (3, .int y3)] k0 n0 80 []) :
    ww x (W_X9_findOrder (xg x) a0 a1 a2 a3 a4 a5 a6 a7 a8 a9 a10 a11 a12 a13 v0 v1 v2 v3 v4 v5 v6 v7 v8) [(0, .ref a0), (1, .int z1), (2, .int z2), (3, .int z3)] k0 n0 27 [] := by
  induction n generalizing z3 v8 with
  | zero => exact h.elim
  | succ n ih =>
    unfold P_X9_findOrder_L27 at h
    refine xw_iload_n hf (pc := 27) dX9_findOrder_27 rfl 3 rfl ?_
    refine xw_if_le hf (pc := 28) dX9_findOrder_28 (c := z3 ≤ 0) Iff.rfl (tgt := 80) rfl ⟨fun c => ?_, fun c => ?_⟩
    · have h := h.1 c
      refine xw_L [0, 1, 2, 3] rfl ?_
      exact hK80 _ _ h
    · have h := h.2 c
      refine xw_aload_n hf (pc := 31) dX9_findOrder_31 rfl 0 rfl ?_
      refine xw_get hf (pc := 32) dX9_findOrder_32 (T := TX9) mi_X9_findOrder_X9 rfl 0 rfl 1 (by decide) rfl mw_X9_findOrder_1 rfl ?_
      refine xw_aload_n hf (pc := 35) dX9_findOrder_35 rfl 0 rfl ?_
      refine xw_get hf (pc := 36) dX9_findOrder_36 (T := TX9) mi_X9_findOrder_X9 rfl 0 rfl 16 (by decide) rfl mw_X9_findOrder_2 rfl ?_
      refine xw_iload_n hf (pc := 39) dX9_findOrder_39 rfl 3 rfl ?_
      refine xw_iconst hf (pc := 40) dX9_findOrder_40 (v := 1) (by decide) ?_
      refine xw_isub hf (pc := 41) dX9_findOrder_41 ?_
      refine xw_iald hf (pc := 42) dX9_findOrder_42 3 rfl h.1 ?_
      have h := h.2
      refine xw_lald hf (pc := 43) dX9_findOrder_43 1 rfl h.1 ?_
      have h := h.2
      refine xw_callS hf (pc := 44) (nA := 1) (Xr := W_X9_findOrder (xg x) a0 a1 a2 a3 a4 a5 a6 a7 a8 a9 a10 a11 a12 a13 v0 v1 v2 v3 v4 v5 v6 v7 v8) (rest := []) (c_X9_key (xl x) (xg x) (v6 (v8 (z3 - 1).toNatClampNeg).toNatClampNeg) h) gX9_findOrder_X9_key (by rfl) rfl (by decide +kernel) ⟨⟨(Nat.le_of_ble_eq_true rfl), (Nat.le_of_ble_eq_true rfl)⟩, hk.1, hk.2⟩ (Nat.le_of_ble_eq_true rfl) (sb_rf _) rfl dX9_findOrder_44 (fun v X1 hp => ?_)
      obtain ⟨r2, rfl, rfl, h⟩ := hp
      show ww x (W_X9_findOrder (xg x) a0 a1 a2 a3 a4 a5 a6 a7 a8 a9 a10 a11 a12 a13 v0 v1 v2 v3 v4 v5 v6 v7 v8) [(0, .ref a0), (1, .int z1), (2, .int z2), (3, .int z3)] k0 n0 47 [.long r2]
      refine xw_aload_n hf (pc := 47) dX9_findOrder_47 rfl 0 rfl ?_
      refine xw_get hf (pc := 48) dX9_findOrder_48 (T := TX9) mi_X9_findOrder_X9 rfl 0 rfl 1 (by decide) rfl mw_X9_findOrder_1 rfl ?_
      refine xw_iload_n hf (pc := 51) dX9_findOrder_51 rfl 2 rfl ?_
      refine xw_lald hf (pc := 52) dX9_findOrder_52 1 rfl h.1 ?_
      have h := h.2
      refine xw_callS hf (pc := 53) (nA := 1) (Xr := W_X9_findOrder (xg x) a0 a1 a2 a3 a4 a5 a6 a7 a8 a9 a10 a11 a12 a13 v0 v1 v2 v3 v4 v5 v6 v7 v8) (rest := [.long r2]) (c_X9_key (xl x) (xg x) (v6 z2.toNatClampNeg) h) gX9_findOrder_X9_key (by rfl) rfl (by decide +kernel) ⟨⟨(Nat.le_of_ble_eq_true rfl), (Nat.le_of_ble_eq_true rfl)⟩, hk.1, hk.2⟩ (Nat.le_of_ble_eq_true rfl) (sb_rf _) rfl dX9_findOrder_53 (fun v X1 hp => ?_)
      obtain ⟨r3, rfl, rfl, h⟩ := hp
      show ww x (W_X9_findOrder (xg x) a0 a1 a2 a3 a4 a5 a6 a7 a8 a9 a10 a11 a12 a13 v0 v1 v2 v3 v4 v5 v6 v7 v8) [(0, .ref a0), (1, .int z1), (2, .int z2), (3, .int z3)] k0 n0 56 [.long r3, .long r2]
      refine xw_lcmp hf (pc := 56) dX9_findOrder_56 ?_
      refine xw_if_le hf (pc := 57) dX9_findOrder_57 (c := r2 ≤ r3) (lc_le _ _) (tgt := 80) rfl ⟨fun c => ?_, fun c => ?_⟩
      · have h := h.1 c
        refine xw_L [0, 1, 2, 3] rfl ?_
        exact hK80 _ _ h
      · have h := h.2 c
        refine xw_aload_n hf (pc := 60) dX9_findOrder_60 rfl 0 rfl ?_
        refine xw_get hf (pc := 61) dX9_findOrder_61 (T := TX9) mi_X9_findOrder_X9 rfl 0 rfl 16 (by decide) rfl mw_X9_findOrder_2 rfl ?_
        refine xw_iload_n hf (pc := 64) dX9_findOrder_64 rfl 3 rfl ?_
        refine xw_aload_n hf (pc := 65) dX9_findOrder_65 rfl 0 rfl ?_
        refine xw_get hf (pc := 66) dX9_findOrder_66 (T := TX9) mi_X9_findOrder_X9 rfl 0 rfl 16 (by decide) rfl mw_X9_findOrder_2 rfl ?_
        refine xw_iload_n hf (pc := 69) dX9_findOrder_69 rfl 3 rfl ?_
        refine xw_iconst hf (pc := 70) dX9_findOrder_70 (v := 1) (by decide) ?_
        refine xw_isub hf (pc := 71) dX9_findOrder_71 ?_
        refine xw_iald hf (pc := 72) dX9_findOrder_72 3 rfl h.1 ?_
        have h := h.2
        refine xw_iast hf (pc := 73) dX9_findOrder_73 3 rfl h.1 (W_X9_findOrder (xg x) a0 a1 a2 a3 a4 a5 a6 a7 a8 a9 a10 a11 a12 a13 v0 v1 v2 v3 v4 v5 v6 v7 (upd v8 z3.toNatClampNeg (v8 (z3 - 1).toNatClampNeg))) rfl ?_
        have h := h.2
        refine xw_iinc hf (pc := 74) dX9_findOrder_74 (v := z3 + (-1)) 3 rfl rfl [(3, .int (z3 + (-1))), (0, .ref a0), (1, .int z1), (2, .int z2)] hn (by decide) rfl ?_
        refine xw_goto hf (pc := 77) dX9_findOrder_77 (tgt := 27) rfl ?_
        refine xw_L [1, 2, 3, 0] rfl ?_
        exact ih _ _ h
set_option maxHeartbeats 4000000 in
set_option maxRecDepth 100000 in
theorem w_X9_findOrder_L4 {x : Cx} (hf : fx x (rm_X9_findOrder) RX9 cX9_findOrder wsX9_findOrder) (hn : xn x = 4) {k0 n0 : Nat} (hk : k0 ≤ (rm_X9_findOrder).cells ∧ n0 ≤ (rm_X9_findOrder).slots) (a0 a1 a2 a3 a4 a5 a6 a7 a8 a9 a10 a11 a12 a13 : Nat) (v0 : Int32) (v1 : Int32) (v2 : Int32) (v3 : Int32) (v4 : Int32) (v5 : Int32) (v6 : Nat → Int64) (v7 : Nat → Int32) {K96 : Int32 → (Nat → Int32) → Prop}
    (n : Nat) (z1 : Int32) (z2 : Int32) (v8 : Nat → Int32) (h : P_X9_findOrder_L4 v0 v1 v2 v3 v4 v5 v6 v7 K96 n z1 z2 v8)
    (hK96 : ∀ (y1 : Int32), ∀ (uv8 : Nat → Int32), K96 y1 uv8 → ww x (W_X9_findOrder (xg x) a0 a1 a2 a3 a4 a5 a6 a7 a8 a9 a10 a11 a12 a13 v0 v1 v2 v3 v4 v5 v6 v7 uv8) [(1, .int y1)] k0 n0 96 []) :
    ww x (W_X9_findOrder (xg x) a0 a1 a2 a3 a4 a5 a6 a7 a8 a9 a10 a11 a12 a13 v0 v1 v2 v3 v4 v5 v6 v7 v8) [(0, .ref a0), (1, .int z1), (2, .int z2)] k0 n0 4 [] := by
  induction n generalizing z1 z2 v8 with
  | zero => exact h.elim
  | succ n ih =>
    unfold P_X9_findOrder_L4 at h
    refine xw_iload_n hf (pc := 4) dX9_findOrder_4 rfl 2 rfl ?_
    refine xw_aload_n hf (pc := 5) dX9_findOrder_5 rfl 0 rfl ?_
    refine xw_get hf (pc := 6) dX9_findOrder_6 (T := TX9) mi_X9_findOrder_X9 rfl 0 rfl 2 (by decide) rfl mw_X9_findOrder_0 rfl ?_
    refine xw_icmp_ge hf (pc := 9) dX9_findOrder_9 (tgt := 96) rfl ⟨fun c => ?_, fun c => ?_⟩
    · have h := h.1 c
      refine xw_L [1] rfl ?_
      exact hK96 _ _ h
    · have h := h.2 c
      refine xw_aload_n hf (pc := 12) dX9_findOrder_12 rfl 0 rfl ?_
      refine xw_aload_n hf (pc := 13) dX9_findOrder_13 rfl 0 rfl ?_
      refine xw_get hf (pc := 14) dX9_findOrder_14 (T := TX9) mi_X9_findOrder_X9 rfl 0 rfl 1 (by decide) rfl mw_X9_findOrder_1 rfl ?_
      refine xw_iload_n hf (pc := 17) dX9_findOrder_17 rfl 2 rfl ?_
      refine xw_lald hf (pc := 18) dX9_findOrder_18 1 rfl h.1 ?_
      have h := h.2
      refine xw_callV hf (pc := 19) (nA := 1) (Xr := [(a1, .inl (gJ (xg x), 60, .inr (.inl v6))), (a3, .inl (gI (xg x), 60, .inl v8))]) (rest := []) (T := TX9) (c_X9_fits (xl x) (xg x) a0 a2 a1 a4 a5 a6 a7 a8 a9 a10 a11 a12 a3 a13 v0 v1 v2 v3 v4 v5 v7 (v6 z2.toNatClampNeg) h) gX9_findOrder_X9_fits (by rfl) rfl rfl (by decide +kernel) ⟨⟨(Nat.le_of_ble_eq_true rfl), (Nat.le_of_ble_eq_true rfl)⟩, hk.1, hk.2⟩ (Nat.le_of_ble_eq_true rfl) rfl rfl (sb_of [0, 2, 1, 3] rfl rfl) rfl dX9_findOrder_19 (fun v X1 hp => ?_)
      obtain ⟨r1, rfl, rfl, h⟩ := hp
      refine xw_X (sb_of [0, 2, 1, 3] rfl rfl) (show ww x (W_X9_findOrder (xg x) a0 a1 a2 a3 a4 a5 a6 a7 a8 a9 a10 a11 a12 a13 v0 v1 v2 v3 v4 v5 v6 v7 v8) [(0, .ref a0), (1, .int z1), (2, .int z2)] k0 n0 22 [.int r1] from ?_)
      refine xw_if_eq hf (pc := 22) dX9_findOrder_22 (c := r1 = 0) Iff.rfl (tgt := 90) rfl ⟨fun c => ?_, fun c => ?_⟩
      · have h := h.1 c
        refine xw_iinc hf (pc := 90) dX9_findOrder_90 (v := z2 + 1) 2 rfl rfl [(2, .int (z2 + 1)), (0, .ref a0), (1, .int z1)] hn (by decide) rfl ?_
        refine xw_goto hf (pc := 93) dX9_findOrder_93 (tgt := 4) rfl ?_
        refine xw_L [1, 2, 0] rfl ?_
        exact ih _ _ _ h
      · have h := h.2 c
        refine xw_iload_n hf (pc := 25) dX9_findOrder_25 rfl 1 rfl ?_
        refine xw_istore_n hf (pc := 26) dX9_findOrder_26 rfl [(3, .int z1), (0, .ref a0), (1, .int z1), (2, .int z2)] hn (by decide) rfl ?_
        refine xw_L [1, 2, 3, 0] rfl ?_
        refine w_X9_findOrder_L27 hf hn ⟨hk.1, hk.2⟩ a0 a1 a2 a3 a4 a5 a6 a7 a8 a9 a10 a11 a12 a13 z1 z2 v6 v0 v1 v2 v3 v4 v5 v7 FU _ _ h (fun x4 w5 h => ?_)
        refine xw_aload_n hf (pc := 80) dX9_findOrder_80 rfl 0 rfl ?_
        refine xw_get hf (pc := 81) dX9_findOrder_81 (T := TX9) mi_X9_findOrder_X9 rfl 0 rfl 16 (by decide) rfl mw_X9_findOrder_2 rfl ?_
        refine xw_iload_n hf (pc := 84) dX9_findOrder_84 rfl 3 rfl ?_
        refine xw_iload_n hf (pc := 85) dX9_findOrder_85 rfl 2 rfl ?_
        refine xw_iast hf (pc := 86) dX9_findOrder_86 3 rfl h.1 (W_X9_findOrder (xg x) a0 a1 a2 a3 a4 a5 a6 a7 a8 a9 a10 a11 a12 a13 v0 v1 v2 v3 v4 v5 v6 v7 (upd w5 x4.toNatClampNeg z2)) rfl ?_
        have h := h.2
        refine xw_iinc hf (pc := 87) dX9_findOrder_87 (v := z1 + 1) 1 rfl rfl [(1, .int (z1 + 1)), (0, .ref a0), (2, .int z2), (3, .int x4)] hn (by decide) rfl ?_
        refine xw_iinc hf (pc := 90) dX9_findOrder_90 (v := z2 + 1) 2 rfl rfl [(2, .int (z2 + 1)), (1, .int (z1 + 1)), (0, .ref a0), (3, .int x4)] hn (by decide) rfl ?_
        refine xw_goto hf (pc := 93) dX9_findOrder_93 (tgt := 4) rfl ?_
        refine xw_L [2, 1, 0] rfl ?_
        exact ih _ _ _ h
set_option maxHeartbeats 4000000 in
set_option maxRecDepth 100000 in
theorem c_X9_findOrder (l : Launch) (g : Gx) (a0 a1 a2 a3 a4 a5 a6 a7 a8 a9 a10 a11 a12 a13 : Nat) (v0 : Int32) (v1 : Int32) (v2 : Int32) (v3 : Int32) (v4 : Int32) (v5 : Int32) (v6 : Nat → Int64) (v7 : Nat → Int32) (v8 : Nat → Int32) {post : Int32 → (Nat → Int32) → Prop} (h : P_X9_findOrder post v0 v1 v2 v3 v4 v5 v6 v7 v8) : cm l g yX9_findOrder wsX9_findOrder (rm_X9_findOrder) [.ref a0] (W_X9_findOrder g a0 a1 a2 a3 a4 a5 a6 a7 a8 a9 a10 a11 a12 a13 v0 v1 v2 v3 v4 v5 v6 v7 v8) (fun v X1 => ∃ (r : Int32) (uv8 : Nat → Int32), v = some (.int r) ∧ X1 = W_X9_findOrder g a0 a1 a2 a3 a4 a5 a6 a7 a8 a9 a10 a11 a12 a13 v0 v1 v2 v3 v4 v5 v6 v7 uv8 ∧ post r uv8) := by
  refine cm_of (cc := cX9_findOrder) (nL := 4) (ret := (some .int)) (by decide +kernel) rfl (Nat.le_of_ble_eq_true rfl) ?_
  intro x hf hl hg hn hi hr
  subst hl
  subst hg
  show ww x (W_X9_findOrder (xg x) a0 a1 a2 a3 a4 a5 a6 a7 a8 a9 a10 a11 a12 a13 v0 v1 v2 v3 v4 v5 v6 v7 v8) [(0, .ref a0)] 0 0 0 []
  unfold P_X9_findOrder at h
  refine xw_iconst hf (pc := 0) dX9_findOrder_0 (v := 0) (by decide) ?_
  refine xw_istore_n hf (pc := 1) dX9_findOrder_1 rfl [(1, .int 0), (0, .ref a0)] hn (by decide) rfl ?_
  refine xw_iconst hf (pc := 2) dX9_findOrder_2 (v := 0) (by decide) ?_
  refine xw_istore_n hf (pc := 3) dX9_findOrder_3 rfl [(2, .int 0), (1, .int 0), (0, .ref a0)] hn (by decide) rfl ?_
  refine xw_L [2, 1, 0] rfl ?_
  refine w_X9_findOrder_L4 hf hn ⟨(Nat.le_of_ble_eq_true rfl), (Nat.le_of_ble_eq_true rfl)⟩ a0 a1 a2 a3 a4 a5 a6 a7 a8 a9 a10 a11 a12 a13 v0 v1 v2 v3 v4 v5 v6 v7 FU _ _ _ h (fun x6 w7 h => ?_)
  refine xw_iload_n hf (pc := 96) dX9_findOrder_96 rfl 0 rfl ?_
  exact xw_iret hf (pc := 97) dX9_findOrder_97 hr (Nat.le_of_ble_eq_true rfl) (Nat.le_of_ble_eq_true rfl) ⟨_, _, rfl, rfl, h⟩
abbrev W_X9_addLetters (g : Gx) (a0 a1 a2 a3 a4 a5 a6 a7 a8 a9 a10 a11 a12 a13 : Nat) (v0 : Int32) (v1 : Int32) (v2 : Int32) (v3 : Int32) (v4 : Int32) (v5 : Int32) (v6 : Nat → Int64) (v7 : Nat → Int32) : va_W := [(a0, .inr (9, [.int v0, .ref a1, .int v1, .ref a3, .ref a4, .ref a5, .ref a6, .ref a7, .ref a8, .ref a9, .int v2, .int v3, .ref a10, .int v4, .ref a11, .ref a2, .ref a12, .ref a13, .int v5])), (a1, .inl (gJ g, 60, .inr (.inl v6))), (a2, .inl (gI g, 27, .inl v7))]
abbrev rm_X9_addLetters : Room := { frames := 0, cells := 0, slots := 0, locals := 0 }
theorem mw_X9_addLetters_0 : (Cond.fieldLink RX9 42 "AnagramButcherModel" "inWord" "[I" : Cond) ∈ wsX9_addLetters := (List.mem_cons_of_mem _ (List.mem_append_left _ (List.mem_of_getElem? (i := 1) rfl)))
theorem mw_X9_addLetters_1 : (Cond.constantLong RX9 63 (31) : Cond) ∈ wsX9_addLetters := (List.mem_cons_of_mem _ (List.mem_append_left _ (List.mem_of_getElem? (i := 2) rfl)))
theorem mw_X9_addLetters_2 : (Cond.fieldLink RX9 7 "AnagramButcherModel" "words" "[J" : Cond) ∈ wsX9_addLetters := (List.mem_cons_of_mem _ (List.mem_append_left _ (List.mem_of_getElem? (i := 0) rfl)))
theorem mi_X9_addLetters_X9 : ∀ w ∈ wsX90, w ∈ wsX9_addLetters := fun _ h => (List.mem_cons_of_mem _ (List.mem_append_right _ h))
set_option maxHeartbeats 4000000 in
set_option maxRecDepth 100000 in
theorem w_X9_addLetters_L16 {x : Cx} (hf : fx x (rm_X9_addLetters) RX9 cX9_addLetters wsX9_addLetters) (hn : xn x = 4) {k0 n0 : Nat} (hk : k0 ≤ (rm_X9_addLetters).cells ∧ n0 ≤ (rm_X9_addLetters).slots) (a0 a1 a2 a3 a4 a5 a6 a7 a8 a9 a10 a11 a12 a13 : Nat) (v0 : Int32) (v1 : Int32) (v2 : Int32) (v3 : Int32) (v4 : Int32) (v5 : Int32) (v6 : Nat → Int64) {K44 : (Nat → Int32) → Prop}
    (n : Nat) (z2 : Int64) (v7 : Nat → Int32) (h : P_X9_addLetters_L16 K44 n z2 v7)
    (hK44 : ∀ (uv7 : Nat → Int32), K44 uv7 → ww x (W_X9_addLetters (xg x) a0 a1 a2 a3 a4 a5 a6 a7 a8 a9 a10 a11 a12 a13 v0 v1 v2 v3 v4 v5 v6 uv7) [] k0 n0 44 []) :
    ww x (W_X9_addLetters (xg x) a0 a1 a2 a3 a4 a5 a6 a7 a8 a9 a10 a11 a12 a13 v0 v1 v2 v3 v4 v5 v6 v7) [(0, .ref a0), (2, .long z2)] k0 n0 16 [] := by
  induction n generalizing z2 v7 with
  | zero => exact h.elim
  | succ n ih =>
    unfold P_X9_addLetters_L16 at h
    refine xw_lload_n hf (pc := 16) dX9_addLetters_16 rfl 1 rfl ?_
    refine xw_lconst hf (pc := 17) dX9_addLetters_17 (v := 0) (by decide) ?_
    refine xw_lcmp hf (pc := 18) dX9_addLetters_18 ?_
    refine xw_if_le hf (pc := 19) dX9_addLetters_19 (c := z2 ≤ 0) (lc_le _ _) (tgt := 44) rfl ⟨fun c => ?_, fun c => ?_⟩
    · have h := h.1 c
      refine xw_L [] rfl ?_
      exact hK44 _ h
    · have h := h.2 c
      refine xw_aload_n hf (pc := 22) dX9_addLetters_22 rfl 0 rfl ?_
      refine xw_get hf (pc := 23) dX9_addLetters_23 (T := TX9) mi_X9_addLetters_X9 rfl 0 rfl 15 (by decide) rfl mw_X9_addLetters_0 rfl ?_
      refine xw_lload_n hf (pc := 26) dX9_addLetters_26 rfl 1 rfl ?_
      refine xw_ldc2 hf (pc := 27) dX9_addLetters_27 mw_X9_addLetters_1 ?_
      refine xw_land hf (pc := 30) dX9_addLetters_30 ?_
      refine xw_l2i hf (pc := 31) dX9_addLetters_31 ?_
      refine xw_dup2 hf (pc := 32) dX9_addLetters_32 rfl rfl ?_
      refine xw_iald hf (pc := 33) dX9_addLetters_33 2 rfl h.1 ?_
      have h := h.2
      refine xw_iconst hf (pc := 34) dX9_addLetters_34 (v := 1) (by decide) ?_
      refine xw_iadd hf (pc := 35) dX9_addLetters_35 ?_
      refine xw_iast hf (pc := 36) dX9_addLetters_36 2 rfl h.1 (W_X9_addLetters (xg x) a0 a1 a2 a3 a4 a5 a6 a7 a8 a9 a10 a11 a12 a13 v0 v1 v2 v3 v4 v5 v6 (upd v7 ((z2 &&& 31).toInt32).toNatClampNeg ((v7 ((z2 &&& 31).toInt32).toNatClampNeg) + 1))) rfl ?_
      have h := h.2
      refine xw_lload_n hf (pc := 37) dX9_addLetters_37 rfl 1 rfl ?_
      refine xw_iconst hf (pc := 38) dX9_addLetters_38 (v := 5) (by decide) ?_
      refine xw_lshr hf (pc := 39) dX9_addLetters_39 ?_
      refine xw_topl (fun y1 ey1 => ?_)
      have h := h y1 ey1
      refine xw_lstore_n hf (pc := 40) dX9_addLetters_40 rfl [(2, .long y1), (0, .ref a0)] hn (by decide) rfl ?_
      refine xw_goto hf (pc := 41) dX9_addLetters_41 (tgt := 16) rfl ?_
      refine xw_L [1, 0] rfl ?_
      exact ih _ _ h
set_option maxHeartbeats 4000000 in
set_option maxRecDepth 100000 in
theorem c_X9_addLetters (l : Launch) (g : Gx) (a0 a1 a2 a3 a4 a5 a6 a7 a8 a9 a10 a11 a12 a13 : Nat) (v0 : Int32) (v1 : Int32) (v2 : Int32) (v3 : Int32) (v4 : Int32) (v5 : Int32) (v6 : Nat → Int64) (v7 : Nat → Int32) (p1 : Int32) {post : (Nat → Int32) → Prop} (h : P_X9_addLetters post p1 v0 v1 v2 v3 v4 v5 v6 v7) : cm l g yX9_addLetters wsX9_addLetters (rm_X9_addLetters) [.ref a0, .int p1] (W_X9_addLetters g a0 a1 a2 a3 a4 a5 a6 a7 a8 a9 a10 a11 a12 a13 v0 v1 v2 v3 v4 v5 v6 v7) (fun v X1 => ∃ (uv7 : Nat → Int32), v = none ∧ X1 = W_X9_addLetters g a0 a1 a2 a3 a4 a5 a6 a7 a8 a9 a10 a11 a12 a13 v0 v1 v2 v3 v4 v5 v6 uv7 ∧ post uv7) := by
  refine cm_of (cc := cX9_addLetters) (nL := 4) (ret := none) (by decide +kernel) rfl (Nat.le_of_ble_eq_true rfl) ?_
  intro x hf hl hg hn hi hr
  subst hl
  subst hg
  show ww x (W_X9_addLetters (xg x) a0 a1 a2 a3 a4 a5 a6 a7 a8 a9 a10 a11 a12 a13 v0 v1 v2 v3 v4 v5 v6 v7) [(0, .ref a0), (1, .int p1)] 0 0 0 []
  unfold P_X9_addLetters at h
  refine xw_iload_n hf (pc := 0) dX9_addLetters_0 rfl 1 rfl ?_
  refine xw_iconst hf (pc := 1) dX9_addLetters_1 (v := (-1)) (by decide) ?_
  refine xw_icmp_ne hf (pc := 2) dX9_addLetters_2 (tgt := 9) rfl ⟨fun c => ?_, fun c => ?_⟩
  · have h := h.1 c
    refine xw_lconst hf (pc := 5) dX9_addLetters_5 (v := 0) (by decide) ?_
    refine xw_goto hf (pc := 6) dX9_addLetters_6 (tgt := 15) rfl ?_
    refine xw_lstore_n hf (pc := 15) dX9_addLetters_15 rfl [(2, .long 0), (0, .ref a0), (1, .int p1)] hn (by decide) rfl ?_
    refine xw_L [1, 0] rfl ?_
    refine w_X9_addLetters_L16 hf hn ⟨(Nat.le_of_ble_eq_true rfl), (Nat.le_of_ble_eq_true rfl)⟩ a0 a1 a2 a3 a4 a5 a6 a7 a8 a9 a10 a11 a12 a13 v0 v1 v2 v3 v4 v5 v6 FU _ _ h (fun w2 h => ?_)
    exact xw_vret hf (pc := 44) dX9_addLetters_44 hr (Nat.le_of_ble_eq_true rfl) (Nat.le_of_ble_eq_true rfl) ⟨_, rfl, rfl, h⟩
  · have h := h.2 c
    refine xw_aload_n hf (pc := 9) dX9_addLetters_9 rfl 0 rfl ?_
    refine xw_get hf (pc := 10) dX9_addLetters_10 (T := TX9) mi_X9_addLetters_X9 rfl 0 rfl 1 (by decide) rfl mw_X9_addLetters_2 rfl ?_
    refine xw_iload_n hf (pc := 13) dX9_addLetters_13 rfl 1 rfl ?_
    refine xw_lald hf (pc := 14) dX9_addLetters_14 1 rfl h.1 ?_
    have h := h.2
    refine xw_topl (fun y3 ey3 => ?_)
    have h := h y3 ey3
    refine xw_lstore_n hf (pc := 15) dX9_addLetters_15 rfl [(2, .long y3), (0, .ref a0), (1, .int p1)] hn (by decide) rfl ?_
    refine xw_L [1, 0] rfl ?_
    refine w_X9_addLetters_L16 hf hn ⟨(Nat.le_of_ble_eq_true rfl), (Nat.le_of_ble_eq_true rfl)⟩ a0 a1 a2 a3 a4 a5 a6 a7 a8 a9 a10 a11 a12 a13 v0 v1 v2 v3 v4 v5 v6 FU _ _ h (fun w4 h => ?_)
    exact xw_vret hf (pc := 44) dX9_addLetters_44 hr (Nat.le_of_ble_eq_true rfl) (Nat.le_of_ble_eq_true rfl) ⟨_, rfl, rfl, h⟩
abbrev W_X9_canCut (g : Gx) (a0 a1 a2 a3 a4 a5 a6 a7 a8 a9 a10 a11 a12 a13 : Nat) (v0 : Int32) (v1 : Int32) (v2 : Int32) (v3 : Int32) (v4 : Int32) (v5 : Int32) (v6 : Nat → Int64) (v7 : Nat → Int32) (v8 : Nat → Int32) : va_W := [(a0, .inr (9, [.int v0, .ref a1, .int v1, .ref a4, .ref a5, .ref a6, .ref a7, .ref a8, .ref a9, .ref a10, .int v2, .int v3, .ref a11, .int v4, .ref a2, .ref a3, .ref a12, .ref a13, .int v5])), (a1, .inl (gJ g, 60, .inr (.inl v6))), (a2, .inl (gI g, 27, .inl v7)), (a3, .inl (gI g, 27, .inl v8))]
abbrev rm_X9_canCut : Room := { frames := 1, cells := 0, slots := 0, locals := 23 }
theorem mw_X9_canCut_0 : (Cond.fieldLink RX9 42 "AnagramButcherModel" "inWord" "[I" : Cond) ∈ wsX9_canCut := (List.mem_cons_of_mem _ (List.mem_append_left _ (List.mem_of_getElem? (i := 0) rfl)))
theorem mw_X9_canCut_1 : (Cond.fieldLink RX9 39 "AnagramButcherModel" "counts" "[I" : Cond) ∈ wsX9_canCut := (List.mem_cons_of_mem _ (List.mem_append_left _ (List.mem_of_getElem? (i := 1) rfl)))
theorem mi_X9_canCut_X9 : ∀ w ∈ wsX90, w ∈ wsX9_canCut := fun _ h => (List.mem_cons_of_mem _ (List.mem_append_right _ h))
set_option maxHeartbeats 4000000 in
set_option maxRecDepth 100000 in
theorem w_X9_canCut_L3 {x : Cx} (hf : fx x (rm_X9_canCut) RX9 cX9_canCut wsX9_canCut) (hn : xn x = 6) {k0 n0 : Nat} (hk : k0 ≤ (rm_X9_canCut).cells ∧ n0 ≤ (rm_X9_canCut).slots) (a0 a1 a2 a3 a4 a5 a6 a7 a8 a9 a10 a11 a12 a13 : Nat) (z1 : Int32) (z2 : Int32) (z3 : Int32) (v0 : Int32) (v1 : Int32) (v2 : Int32) (v3 : Int32) (v4 : Int32) (v5 : Int32) (v6 : Nat → Int64) (v7 : Nat → Int32) {K24 : (Nat → Int32) → Prop}
    (n : Nat) (z4 : Int32) (v8 : Nat → Int32) (h : P_X9_canCut_L3 z1 z2 z3 K24 n z4 v8)
    (hK24 : ∀ (uv8 : Nat → Int32), K24 uv8 → ww x (W_X9_canCut (xg x) a0 a1 a2 a3 a4 a5 a6 a7 a8 a9 a10 a11 a12 a13 v0 v1 v2 v3 v4 v5 v6 v7 uv8) [(0, .ref a0), (1, .int z1), (2, .int z2), (3, .int z3)] k0 n0 24 []) :
    ww x (W_X9_canCut (xg x) a0 a1 a2 a3 a4 a5 a6 a7 a8 a9 a10 a11 a12 a13 v0 v1 v2 v3 v4 v5 v6 v7 v8) [(0, .ref a0), (1, .int z1), (2, .int z2), (3, .int z3), (4, .int z4)] k0 n0 3 [] := by
  induction n generalizing z4 v8 with
  | zero => exact h.elim
  | succ n ih =>
    unfold P_X9_canCut_L3 at h
    refine xw_iload hf (pc := 3) dX9_canCut_3 4 rfl ?_
    refine xw_bipush hf (pc := 5) dX9_canCut_5 (v := 26) (by decide) ?_
    refine xw_icmp_gt hf (pc := 7) dX9_canCut_7 (tgt := 24) rfl ⟨fun c => ?_, fun c => ?_⟩
    · have h := h.1 c
      refine xw_L [0, 1, 2, 3] rfl ?_
      exact hK24 _ h
    · have h := h.2 c
      refine xw_aload_n hf (pc := 10) dX9_canCut_10 rfl 0 rfl ?_
      refine xw_get hf (pc := 11) dX9_canCut_11 (T := TX9) mi_X9_canCut_X9 rfl 0 rfl 15 (by decide) rfl mw_X9_canCut_0 rfl ?_
      refine xw_iload hf (pc := 14) dX9_canCut_14 4 rfl ?_
      refine xw_iconst hf (pc := 16) dX9_canCut_16 (v := 0) (by decide) ?_
      refine xw_iast hf (pc := 17) dX9_canCut_17 3 rfl h.1 (W_X9_canCut (xg x) a0 a1 a2 a3 a4 a5 a6 a7 a8 a9 a10 a11 a12 a13 v0 v1 v2 v3 v4 v5 v6 v7 (upd v8 z4.toNatClampNeg 0)) rfl ?_
      have h := h.2
      refine xw_iinc hf (pc := 18) dX9_canCut_18 (v := z4 + 1) 4 rfl rfl [(4, .int (z4 + 1)), (0, .ref a0), (1, .int z1), (2, .int z2), (3, .int z3)] hn (by decide) rfl ?_
      refine xw_goto hf (pc := 21) dX9_canCut_21 (tgt := 3) rfl ?_
      refine xw_L [1, 2, 3, 4, 0] rfl ?_
      exact ih _ _ h
set_option maxHeartbeats 4000000 in
set_option maxRecDepth 100000 in
theorem w_X9_canCut_L45 {x : Cx} (hf : fx x (rm_X9_canCut) RX9 cX9_canCut wsX9_canCut) (hn : xn x = 6) {k0 n0 : Nat} (hk : k0 ≤ (rm_X9_canCut).cells ∧ n0 ≤ (rm_X9_canCut).slots) (a0 a1 a2 a3 a4 a5 a6 a7 a8 a9 a10 a11 a12 a13 : Nat) (v7 : Nat → Int32) (v8 : Nat → Int32) (v0 : Int32) (v1 : Int32) (v2 : Int32) (v3 : Int32) (v4 : Int32) (v5 : Int32) (v6 : Nat → Int64) {K87 : Int32 → Prop}
    (n : Nat) (z4 : Int32) (z5 : Int32) (h : P_X9_canCut_L45 v7 v8 K87 n z4 z5)
    (hK87 : ∀ (y4 : Int32), K87 y4 → ww x (W_X9_canCut (xg x) a0 a1 a2 a3 a4 a5 a6 a7 a8 a9 a10 a11 a12 a13 v0 v1 v2 v3 v4 v5 v6 v7 v8) [(4, .int y4)] k0 n0 87 []) :
    ww x (W_X9_canCut (xg x) a0 a1 a2 a3 a4 a5 a6 a7 a8 a9 a10 a11 a12 a13 v0 v1 v2 v3 v4 v5 v6 v7 v8) [(0, .ref a0), (4, .int z4), (5, .int z5)] k0 n0 45 [] := by
  induction n generalizing z4 z5 with
  | zero => exact h.elim
  | succ n ih =>
    unfold P_X9_canCut_L45 at h
    refine xw_iload hf (pc := 45) dX9_canCut_45 2 rfl ?_
    refine xw_bipush hf (pc := 47) dX9_canCut_47 (v := 26) (by decide) ?_
    refine xw_icmp_gt hf (pc := 49) dX9_canCut_49 (tgt := 87) rfl ⟨fun c => ?_, fun c => ?_⟩
    · have h := h.1 c
      refine xw_L [1] rfl ?_
      exact hK87 _ h
    · have h := h.2 c
      refine xw_iload hf (pc := 52) dX9_canCut_52 1 rfl ?_
      refine xw_if_eq hf (pc := 54) dX9_canCut_54 (c := z4 = 0) Iff.rfl (tgt := 78) rfl ⟨fun c => ?_, fun c => ?_⟩
      · have h := h.1 c
        refine xw_iconst hf (pc := 78) dX9_canCut_78 (v := 0) (by decide) ?_
        refine xw_istore hf (pc := 79) dX9_canCut_79 [(4, .int 0), (0, .ref a0), (5, .int z5)] hn (by decide) rfl ?_
        refine xw_iinc hf (pc := 81) dX9_canCut_81 (v := z5 + 1) 2 rfl rfl [(5, .int (z5 + 1)), (4, .int 0), (0, .ref a0)] hn (by decide) rfl ?_
        refine xw_goto hf (pc := 84) dX9_canCut_84 (tgt := 45) rfl ?_
        refine xw_L [2, 1, 0] rfl ?_
        exact ih _ _ h
      · have h := h.2 c
        refine xw_aload_n hf (pc := 57) dX9_canCut_57 rfl 0 rfl ?_
        refine xw_get hf (pc := 58) dX9_canCut_58 (T := TX9) mi_X9_canCut_X9 rfl 0 rfl 15 (by decide) rfl mw_X9_canCut_0 rfl ?_
        refine xw_iload hf (pc := 61) dX9_canCut_61 2 rfl ?_
        refine xw_iald hf (pc := 63) dX9_canCut_63 3 rfl h.1 ?_
        have h := h.2
        refine xw_aload_n hf (pc := 64) dX9_canCut_64 rfl 0 rfl ?_
        refine xw_get hf (pc := 65) dX9_canCut_65 (T := TX9) mi_X9_canCut_X9 rfl 0 rfl 14 (by decide) rfl mw_X9_canCut_1 rfl ?_
        refine xw_iload hf (pc := 68) dX9_canCut_68 2 rfl ?_
        refine xw_iald hf (pc := 70) dX9_canCut_70 2 rfl h.1 ?_
        have h := h.2
        refine xw_icmp_gt hf (pc := 71) dX9_canCut_71 (tgt := 78) rfl ⟨fun c => ?_, fun c => ?_⟩
        · have h := h.1 c
          refine xw_iconst hf (pc := 78) dX9_canCut_78 (v := 0) (by decide) ?_
          refine xw_istore hf (pc := 79) dX9_canCut_79 [(4, .int 0), (0, .ref a0), (5, .int z5)] hn (by decide) rfl ?_
          refine xw_iinc hf (pc := 81) dX9_canCut_81 (v := z5 + 1) 2 rfl rfl [(5, .int (z5 + 1)), (4, .int 0), (0, .ref a0)] hn (by decide) rfl ?_
          refine xw_goto hf (pc := 84) dX9_canCut_84 (tgt := 45) rfl ?_
          refine xw_L [2, 1, 0] rfl ?_
          exact ih _ _ h
        · have h := h.2 c
          refine xw_iconst hf (pc := 74) dX9_canCut_74 (v := 1) (by decide) ?_
          refine xw_goto hf (pc := 75) dX9_canCut_75 (tgt := 79) rfl ?_
          refine xw_istore hf (pc := 79) dX9_canCut_79 [(4, .int 1), (0, .ref a0), (5, .int z5)] hn (by decide) rfl ?_
          refine xw_iinc hf (pc := 81) dX9_canCut_81 (v := z5 + 1) 2 rfl rfl [(5, .int (z5 + 1)), (4, .int 1), (0, .ref a0)] hn (by decide) rfl ?_
          refine xw_goto hf (pc := 84) dX9_canCut_84 (tgt := 45) rfl ?_
          refine xw_L [2, 1, 0] rfl ?_
          exact ih _ _ h
set_option maxHeartbeats 4000000 in
set_option maxRecDepth 100000 in
theorem c_X9_canCut (l : Launch) (g : Gx) (a0 a1 a2 a3 a4 a5 a6 a7 a8 a9 a10 a11 a12 a13 : Nat) (v0 : Int32) (v1 : Int32) (v2 : Int32) (v3 : Int32) (v4 : Int32) (v5 : Int32) (v6 : Nat → Int64) (v7 : Nat → Int32) (v8 : Nat → Int32) (p1 : Int32) (p2 : Int32) (p3 : Int32) {post : Int32 → (Nat → Int32) → Prop} (h : P_X9_canCut post p1 p2 p3 v0 v1 v2 v3 v4 v5 v6 v7 v8) : cm l g yX9_canCut wsX9_canCut (rm_X9_canCut) [.ref a0, .int p1, .int p2, .int p3] (W_X9_canCut g a0 a1 a2 a3 a4 a5 a6 a7 a8 a9 a10 a11 a12 a13 v0 v1 v2 v3 v4 v5 v6 v7 v8) (fun v X1 => ∃ (r : Int32) (uv8 : Nat → Int32), v = some (.int r) ∧ X1 = W_X9_canCut g a0 a1 a2 a3 a4 a5 a6 a7 a8 a9 a10 a11 a12 a13 v0 v1 v2 v3 v4 v5 v6 v7 uv8 ∧ post r uv8) := by
  refine cm_of (cc := cX9_canCut) (nL := 6) (ret := (some .boolean)) (by decide +kernel) rfl (Nat.le_of_ble_eq_true rfl) ?_
  intro x hf hl hg hn hi hr
  subst hl
  subst hg
  show ww x (W_X9_canCut (xg x) a0 a1 a2 a3 a4 a5 a6 a7 a8 a9 a10 a11 a12 a13 v0 v1 v2 v3 v4 v5 v6 v7 v8) [(0, .ref a0), (1, .int p1), (2, .int p2), (3, .int p3)] 0 0 0 []
  unfold P_X9_canCut at h
  refine xw_iconst hf (pc := 0) dX9_canCut_0 (v := 1) (by decide) ?_
  refine xw_istore hf (pc := 1) dX9_canCut_1 [(4, .int 1), (0, .ref a0), (1, .int p1), (2, .int p2), (3, .int p3)] hn (by decide) rfl ?_
  refine xw_L [1, 2, 3, 4, 0] rfl ?_
  refine w_X9_canCut_L3 hf hn ⟨(Nat.le_of_ble_eq_true rfl), (Nat.le_of_ble_eq_true rfl)⟩ a0 a1 a2 a3 a4 a5 a6 a7 a8 a9 a10 a11 a12 a13 p1 p2 p3 v0 v1 v2 v3 v4 v5 v6 v7 FU _ _ h (fun w1 h => ?_)
  refine xw_aload_n hf (pc := 24) dX9_canCut_24 rfl 0 rfl ?_
  refine xw_iload_n hf (pc := 25) dX9_canCut_25 rfl 1 rfl ?_
  refine xw_callV hf (pc := 26) (nA := 1) (Xr := [(a2, .inl (gI (xg x), 27, .inl v7))]) (rest := []) (T := TX9) (c_X9_addLetters (xl x) (xg x) a0 a1 a3 a4 a5 a6 a7 a8 a9 a10 a11 a2 a12 a13 v0 v1 v2 v3 v4 v5 v6 w1 p1 h) gX9_canCut_X9_addLetters (by rfl) rfl rfl (by decide +kernel) ⟨⟨(Nat.le_of_ble_eq_true rfl), (Nat.le_of_ble_eq_true rfl)⟩, (Nat.le_of_ble_eq_true rfl), (Nat.le_of_ble_eq_true rfl)⟩ (Nat.le_of_ble_eq_true rfl) rfl rfl (sb_of [0, 1, 3, 2] rfl rfl) rfl dX9_canCut_26 (fun v X1 hp => ?_)
  obtain ⟨w3, rfl, rfl, h⟩ := hp
  refine xw_X (sb_of [0, 1, 3, 2] rfl rfl) (show ww x (W_X9_canCut (xg x) a0 a1 a2 a3 a4 a5 a6 a7 a8 a9 a10 a11 a12 a13 v0 v1 v2 v3 v4 v5 v6 v7 w3) [(0, .ref a0), (1, .int p1), (2, .int p2), (3, .int p3)] 0 0 29 [] from ?_)
  refine xw_aload_n hf (pc := 29) dX9_canCut_29 rfl 0 rfl ?_
  refine xw_iload_n hf (pc := 30) dX9_canCut_30 rfl 2 rfl ?_
  refine xw_callV hf (pc := 31) (nA := 1) (Xr := [(a2, .inl (gI (xg x), 27, .inl v7))]) (rest := []) (T := TX9) (c_X9_addLetters (xl x) (xg x) a0 a1 a3 a4 a5 a6 a7 a8 a9 a10 a11 a2 a12 a13 v0 v1 v2 v3 v4 v5 v6 w3 p2 h) gX9_canCut_X9_addLetters (by rfl) rfl rfl (by decide +kernel) ⟨⟨(Nat.le_of_ble_eq_true rfl), (Nat.le_of_ble_eq_true rfl)⟩, (Nat.le_of_ble_eq_true rfl), (Nat.le_of_ble_eq_true rfl)⟩ (Nat.le_of_ble_eq_true rfl) rfl rfl (sb_of [0, 1, 3, 2] rfl rfl) rfl dX9_canCut_31 (fun v X1 hp => ?_)
  obtain ⟨w5, rfl, rfl, h⟩ := hp
  refine xw_X (sb_of [0, 1, 3, 2] rfl rfl) (show ww x (W_X9_canCut (xg x) a0 a1 a2 a3 a4 a5 a6 a7 a8 a9 a10 a11 a12 a13 v0 v1 v2 v3 v4 v5 v6 v7 w5) [(0, .ref a0), (1, .int p1), (2, .int p2), (3, .int p3)] 0 0 34 [] from ?_)
  refine xw_aload_n hf (pc := 34) dX9_canCut_34 rfl 0 rfl ?_
  refine xw_iload_n hf (pc := 35) dX9_canCut_35 rfl 3 rfl ?_
  refine xw_callV hf (pc := 36) (nA := 1) (Xr := [(a2, .inl (gI (xg x), 27, .inl v7))]) (rest := []) (T := TX9) (c_X9_addLetters (xl x) (xg x) a0 a1 a3 a4 a5 a6 a7 a8 a9 a10 a11 a2 a12 a13 v0 v1 v2 v3 v4 v5 v6 w5 p3 h) gX9_canCut_X9_addLetters (by rfl) rfl rfl (by decide +kernel) ⟨⟨(Nat.le_of_ble_eq_true rfl), (Nat.le_of_ble_eq_true rfl)⟩, (Nat.le_of_ble_eq_true rfl), (Nat.le_of_ble_eq_true rfl)⟩ (Nat.le_of_ble_eq_true rfl) rfl rfl (sb_of [0, 1, 3, 2] rfl rfl) rfl dX9_canCut_36 (fun v X1 hp => ?_)
  obtain ⟨w7, rfl, rfl, h⟩ := hp
  refine xw_X (sb_of [0, 1, 3, 2] rfl rfl) (show ww x (W_X9_canCut (xg x) a0 a1 a2 a3 a4 a5 a6 a7 a8 a9 a10 a11 a12 a13 v0 v1 v2 v3 v4 v5 v6 v7 w7) [(0, .ref a0), (1, .int p1), (2, .int p2), (3, .int p3)] 0 0 39 [] from ?_)
  refine xw_iconst hf (pc := 39) dX9_canCut_39 (v := 1) (by decide) ?_
  refine xw_istore hf (pc := 40) dX9_canCut_40 [(4, .int 1), (0, .ref a0), (1, .int p1), (2, .int p2), (3, .int p3)] hn (by decide) rfl ?_
  refine xw_iconst hf (pc := 42) dX9_canCut_42 (v := 1) (by decide) ?_
  refine xw_istore hf (pc := 43) dX9_canCut_43 [(5, .int 1), (4, .int 1), (0, .ref a0), (1, .int p1), (2, .int p2), (3, .int p3)] hn (by decide) rfl ?_
  refine xw_L [2, 1, 0] rfl ?_
  refine w_X9_canCut_L45 hf hn ⟨(Nat.le_of_ble_eq_true rfl), (Nat.le_of_ble_eq_true rfl)⟩ a0 a1 a2 a3 a4 a5 a6 a7 a8 a9 a10 a11 a12 a13 v7 w7 v0 v1 v2 v3 v4 v5 v6 FU _ _ h (fun x8 h => ?_)
  refine xw_iload hf (pc := 87) dX9_canCut_87 0 rfl ?_
  exact xw_zret hf (pc := 89) dX9_canCut_89 hr (Nat.le_of_ble_eq_true rfl) (Nat.le_of_ble_eq_true rfl) h.1 ⟨_, _, rfl, rfl, h.2⟩
abbrev W_X9_lengthAt (g : Gx) (a0 a1 a2 a3 a4 a5 a6 a7 a8 a9 a10 a11 a12 a13 : Nat) (v0 : Int32) (v1 : Int32) (v2 : Int32) (v3 : Int32) (v4 : Int32) (v5 : Int32) (v6 : Nat → Int64) : va_W := [(a0, .inr (9, [.int v0, .ref a1, .int v1, .ref a2, .ref a3, .ref a4, .ref a5, .ref a6, .ref a7, .ref a8, .int v2, .int v3, .ref a9, .int v4, .ref a10, .ref a11, .ref a12, .ref a13, .int v5])), (a1, .inl (gJ g, 60, .inr (.inl v6)))]
abbrev rm_X9_lengthAt : Room := { frames := 1, cells := 0, slots := 0, locals := 24 }
theorem mw_X9_lengthAt_0 : (Cond.fieldLink RX9 7 "AnagramButcherModel" "words" "[J" : Cond) ∈ wsX9_lengthAt := (List.mem_cons_of_mem _ (List.mem_append_left _ (List.mem_of_getElem? (i := 0) rfl)))
theorem mi_X9_lengthAt_X9 : ∀ w ∈ wsX90, w ∈ wsX9_lengthAt := fun _ h => (List.mem_cons_of_mem _ (List.mem_append_right _ h))
set_option maxHeartbeats 4000000 in
set_option maxRecDepth 100000 in
theorem c_X9_lengthAt (l : Launch) (g : Gx) (a0 a1 a2 a3 a4 a5 a6 a7 a8 a9 a10 a11 a12 a13 : Nat) (v0 : Int32) (v1 : Int32) (v2 : Int32) (v3 : Int32) (v4 : Int32) (v5 : Int32) (v6 : Nat → Int64) (p1 : Int32) {post : Int32 → Prop} (h : P_X9_lengthAt post p1 v0 v1 v2 v3 v4 v5 v6) : cm l g yX9_lengthAt wsX9_lengthAt (rm_X9_lengthAt) [.ref a0, .int p1] (W_X9_lengthAt g a0 a1 a2 a3 a4 a5 a6 a7 a8 a9 a10 a11 a12 a13 v0 v1 v2 v3 v4 v5 v6) (fun v X1 => ∃ (r : Int32), v = some (.int r) ∧ X1 = W_X9_lengthAt g a0 a1 a2 a3 a4 a5 a6 a7 a8 a9 a10 a11 a12 a13 v0 v1 v2 v3 v4 v5 v6 ∧ post r) := by
  refine cm_of (cc := cX9_lengthAt) (nL := 2) (ret := (some .int)) (by decide +kernel) rfl (Nat.le_of_ble_eq_true rfl) ?_
  intro x hf hl hg hn hi hr
  subst hl
  subst hg
  show ww x (W_X9_lengthAt (xg x) a0 a1 a2 a3 a4 a5 a6 a7 a8 a9 a10 a11 a12 a13 v0 v1 v2 v3 v4 v5 v6) [(0, .ref a0), (1, .int p1)] 0 0 0 []
  unfold P_X9_lengthAt at h
  refine xw_iload_n hf (pc := 0) dX9_lengthAt_0 rfl 1 rfl ?_
  refine xw_iconst hf (pc := 1) dX9_lengthAt_1 (v := (-1)) (by decide) ?_
  refine xw_icmp_ne hf (pc := 2) dX9_lengthAt_2 (tgt := 9) rfl ⟨fun c => ?_, fun c => ?_⟩
  · have h := h.1 c
    refine xw_iconst hf (pc := 5) dX9_lengthAt_5 (v := 0) (by decide) ?_
    refine xw_goto hf (pc := 6) dX9_lengthAt_6 (tgt := 18) rfl ?_
    exact xw_iret hf (pc := 18) dX9_lengthAt_18 hr (Nat.le_of_ble_eq_true rfl) (Nat.le_of_ble_eq_true rfl) ⟨_, rfl, rfl, h⟩
  · have h := h.2 c
    refine xw_aload_n hf (pc := 9) dX9_lengthAt_9 rfl 0 rfl ?_
    refine xw_get hf (pc := 10) dX9_lengthAt_10 (T := TX9) mi_X9_lengthAt_X9 rfl 0 rfl 1 (by decide) rfl mw_X9_lengthAt_0 rfl ?_
    refine xw_iload_n hf (pc := 13) dX9_lengthAt_13 rfl 1 rfl ?_
    refine xw_lald hf (pc := 14) dX9_lengthAt_14 1 rfl h.1 ?_
    have h := h.2
    refine xw_callS hf (pc := 15) (nA := 1) (Xr := W_X9_lengthAt (xg x) a0 a1 a2 a3 a4 a5 a6 a7 a8 a9 a10 a11 a12 a13 v0 v1 v2 v3 v4 v5 v6) (rest := []) (c_X9_lengthOf (xl x) (xg x) (v6 p1.toNatClampNeg) h) gX9_lengthAt_X9_lengthOf (by rfl) rfl (by decide +kernel) ⟨⟨(Nat.le_of_ble_eq_true rfl), (Nat.le_of_ble_eq_true rfl)⟩, (Nat.le_of_ble_eq_true rfl), (Nat.le_of_ble_eq_true rfl)⟩ (Nat.le_of_ble_eq_true rfl) (sb_rf _) rfl dX9_lengthAt_15 (fun v X1 hp => ?_)
    obtain ⟨r1, rfl, rfl, h⟩ := hp
    show ww x (W_X9_lengthAt (xg x) a0 a1 a2 a3 a4 a5 a6 a7 a8 a9 a10 a11 a12 a13 v0 v1 v2 v3 v4 v5 v6) [(0, .ref a0), (1, .int p1)] 0 0 18 [.int r1]
    exact xw_iret hf (pc := 18) dX9_lengthAt_18 hr (Nat.le_of_ble_eq_true rfl) (Nat.le_of_ble_eq_true rfl) ⟨_, rfl, rfl, h⟩
abbrev W_X9_keep (g : Gx) (a0 a1 a2 a3 a4 a5 a6 a7 a8 a9 a10 a11 a12 a13 : Nat) (v0 : Int32) (v1 : Int32) (v2 : Int32) (v3 : Int32) (v4 : Int32) (v5 : Int32) (v6 : Nat → Int64) (v7 : Nat → Int32) (v8 : Nat → Int32) (v9 : Nat → Int32) : va_W := [(a0, .inr (9, [.int v0, .ref a1, .int v1, .ref a5, .ref a6, .ref a7, .ref a8, .ref a9, .ref a10, .ref a11, .int v2, .int v3, .ref a12, .int v4, .ref a2, .ref a3, .ref a13, .ref a4, .int v5])), (a1, .inl (gJ g, 60, .inr (.inl v6))), (a2, .inl (gI g, 27, .inl v7)), (a3, .inl (gI g, 27, .inl v8)), (a4, .inl (gI g, 3, .inl v9))]
abbrev rm_X9_keep : Room := { frames := 2, cells := 0, slots := 0, locals := 48 }
theorem mw_X9_keep_0 : (Cond.fieldLink RX9 69 "AnagramButcherModel" "speltCount" "I" : Cond) ∈ wsX9_keep := (List.mem_cons_of_mem _ (List.mem_append_left _ (List.mem_of_getElem? (i := 0) rfl)))
theorem mw_X9_keep_1 : (Cond.fieldLink RX9 48 "AnagramButcherModel" "plan" "[I" : Cond) ∈ wsX9_keep := (List.mem_cons_of_mem _ (List.mem_append_left _ (List.mem_of_getElem? (i := 1) rfl)))
theorem mw_X9_keep_2 : (Cond.fieldLink RX9 190 "AnagramButcherModel" "planned" "I" : Cond) ∈ wsX9_keep := (List.mem_cons_of_mem _ (List.mem_append_left _ (List.mem_of_getElem? (i := 2) rfl)))
theorem mi_X9_keep_X9 : ∀ w ∈ wsX90, w ∈ wsX9_keep := fun _ h => (List.mem_cons_of_mem _ (List.mem_append_right _ h))
set_option maxHeartbeats 4000000 in
set_option maxRecDepth 100000 in
theorem c_X9_keep (l : Launch) (g : Gx) (a0 a1 a2 a3 a4 a5 a6 a7 a8 a9 a10 a11 a12 a13 : Nat) (v0 : Int32) (v1 : Int32) (v2 : Int32) (v3 : Int32) (v4 : Int32) (v5 : Int32) (v6 : Nat → Int64) (v7 : Nat → Int32) (v8 : Nat → Int32) (v9 : Nat → Int32) (p1 : Int32) (p2 : Int32) (p3 : Int32) (p4 : Int32) {post : Int32 → Int32 → (Nat → Int32) → (Nat → Int32) → Prop} (h : P_X9_keep post p1 p2 p3 p4 v0 v1 v2 v3 v4 v5 v6 v7 v8 v9) : cm l g yX9_keep wsX9_keep (rm_X9_keep) [.ref a0, .int p1, .int p2, .int p3, .int p4] (W_X9_keep g a0 a1 a2 a3 a4 a5 a6 a7 a8 a9 a10 a11 a12 a13 v0 v1 v2 v3 v4 v5 v6 v7 v8 v9) (fun v X1 => ∃ (r : Int32) (uv5 : Int32) (uv8 : Nat → Int32) (uv9 : Nat → Int32), v = some (.int r) ∧ X1 = W_X9_keep g a0 a1 a2 a3 a4 a5 a6 a7 a8 a9 a10 a11 a12 a13 v0 v1 v2 v3 v4 uv5 v6 v7 uv8 uv9 ∧ post r uv5 uv8 uv9) := by
  refine cm_of (cc := cX9_keep) (nL := 6) (ret := (some .int)) (by decide +kernel) rfl (Nat.le_of_ble_eq_true rfl) ?_
  intro x hf hl hg hn hi hr
  subst hl
  subst hg
  show ww x (W_X9_keep (xg x) a0 a1 a2 a3 a4 a5 a6 a7 a8 a9 a10 a11 a12 a13 v0 v1 v2 v3 v4 v5 v6 v7 v8 v9) [(0, .ref a0), (1, .int p1), (2, .int p2), (3, .int p3), (4, .int p4)] 0 0 0 []
  unfold P_X9_keep at h
  refine xw_aload_n hf (pc := 0) dX9_keep_0 rfl 0 rfl ?_
  refine xw_iload_n hf (pc := 1) dX9_keep_1 rfl 2 rfl ?_
  refine xw_callV hf (pc := 2) (nA := 1) (Xr := [(a2, .inl (gI (xg x), 27, .inl v7)), (a3, .inl (gI (xg x), 27, .inl v8)), (a4, .inl (gI (xg x), 3, .inl v9))]) (rest := []) (T := TX9) (c_X9_lengthAt (xl x) (xg x) a0 a1 a5 a6 a7 a8 a9 a10 a11 a12 a2 a3 a13 a4 v0 v1 v2 v3 v4 v5 v6 p2 h) gX9_keep_X9_lengthAt (by rfl) rfl rfl (by decide +kernel) ⟨⟨(Nat.le_of_ble_eq_true rfl), (Nat.le_of_ble_eq_true rfl)⟩, (Nat.le_of_ble_eq_true rfl), (Nat.le_of_ble_eq_true rfl)⟩ (Nat.le_of_ble_eq_true rfl) rfl rfl (sb_of [0, 1, 2, 3, 4] rfl rfl) rfl dX9_keep_2 (fun v X1 hp => ?_)
  obtain ⟨r1, rfl, rfl, h⟩ := hp
  refine xw_X (sb_of [0, 1, 2, 3, 4] rfl rfl) (show ww x (W_X9_keep (xg x) a0 a1 a2 a3 a4 a5 a6 a7 a8 a9 a10 a11 a12 a13 v0 v1 v2 v3 v4 v5 v6 v7 v8 v9) [(0, .ref a0), (1, .int p1), (2, .int p2), (3, .int p3), (4, .int p4)] 0 0 5 [.int r1] from ?_)
  refine xw_aload_n hf (pc := 5) dX9_keep_5 rfl 0 rfl ?_
  refine xw_iload_n hf (pc := 6) dX9_keep_6 rfl 3 rfl ?_
  refine xw_callV hf (pc := 7) (nA := 1) (Xr := [(a2, .inl (gI (xg x), 27, .inl v7)), (a3, .inl (gI (xg x), 27, .inl v8)), (a4, .inl (gI (xg x), 3, .inl v9))]) (rest := [.int r1]) (T := TX9) (c_X9_lengthAt (xl x) (xg x) a0 a1 a5 a6 a7 a8 a9 a10 a11 a12 a2 a3 a13 a4 v0 v1 v2 v3 v4 v5 v6 p3 h) gX9_keep_X9_lengthAt (by rfl) rfl rfl (by decide +kernel) ⟨⟨(Nat.le_of_ble_eq_true rfl), (Nat.le_of_ble_eq_true rfl)⟩, (Nat.le_of_ble_eq_true rfl), (Nat.le_of_ble_eq_true rfl)⟩ (Nat.le_of_ble_eq_true rfl) rfl rfl (sb_of [0, 1, 2, 3, 4] rfl rfl) rfl dX9_keep_7 (fun v X1 hp => ?_)
  obtain ⟨r2, rfl, rfl, h⟩ := hp
  refine xw_X (sb_of [0, 1, 2, 3, 4] rfl rfl) (show ww x (W_X9_keep (xg x) a0 a1 a2 a3 a4 a5 a6 a7 a8 a9 a10 a11 a12 a13 v0 v1 v2 v3 v4 v5 v6 v7 v8 v9) [(0, .ref a0), (1, .int p1), (2, .int p2), (3, .int p3), (4, .int p4)] 0 0 10 [.int r2, .int r1] from ?_)
  refine xw_iadd hf (pc := 10) dX9_keep_10 ?_
  refine xw_aload_n hf (pc := 11) dX9_keep_11 rfl 0 rfl ?_
  refine xw_iload hf (pc := 12) dX9_keep_12 4 rfl ?_
  refine xw_callV hf (pc := 14) (nA := 1) (Xr := [(a2, .inl (gI (xg x), 27, .inl v7)), (a3, .inl (gI (xg x), 27, .inl v8)), (a4, .inl (gI (xg x), 3, .inl v9))]) (rest := [.int (r1 + r2)]) (T := TX9) (c_X9_lengthAt (xl x) (xg x) a0 a1 a5 a6 a7 a8 a9 a10 a11 a12 a2 a3 a13 a4 v0 v1 v2 v3 v4 v5 v6 p4 h) gX9_keep_X9_lengthAt (by rfl) rfl rfl (by decide +kernel) ⟨⟨(Nat.le_of_ble_eq_true rfl), (Nat.le_of_ble_eq_true rfl)⟩, (Nat.le_of_ble_eq_true rfl), (Nat.le_of_ble_eq_true rfl)⟩ (Nat.le_of_ble_eq_true rfl) rfl rfl (sb_of [0, 1, 2, 3, 4] rfl rfl) rfl dX9_keep_14 (fun v X1 hp => ?_)
  obtain ⟨r3, rfl, rfl, h⟩ := hp
  refine xw_X (sb_of [0, 1, 2, 3, 4] rfl rfl) (show ww x (W_X9_keep (xg x) a0 a1 a2 a3 a4 a5 a6 a7 a8 a9 a10 a11 a12 a13 v0 v1 v2 v3 v4 v5 v6 v7 v8 v9) [(0, .ref a0), (1, .int p1), (2, .int p2), (3, .int p3), (4, .int p4)] 0 0 17 [.int r3, .int (r1 + r2)] from ?_)
  refine xw_iadd hf (pc := 17) dX9_keep_17 ?_
  refine xw_topi (fun y4 ey4 => ?_)
  have h := h y4 ey4
  refine xw_istore hf (pc := 18) dX9_keep_18 [(5, .int y4), (0, .ref a0), (1, .int p1), (2, .int p2), (3, .int p3), (4, .int p4)] hn (by decide) rfl ?_
  refine xw_iload hf (pc := 20) dX9_keep_20 0 rfl ?_
  refine xw_iload_n hf (pc := 22) dX9_keep_22 rfl 2 rfl ?_
  refine xw_icmp_le hf (pc := 23) dX9_keep_23 (tgt := 46) rfl ⟨fun c => ?_, fun c => ?_⟩
  · have h := h.1 c
    refine xw_iload_n hf (pc := 46) dX9_keep_46 rfl 2 rfl ?_
    exact xw_iret hf (pc := 47) dX9_keep_47 hr (Nat.le_of_ble_eq_true rfl) (Nat.le_of_ble_eq_true rfl) ⟨_, _, _, _, rfl, rfl, h⟩
  · have h := h.2 c
    refine xw_iload hf (pc := 26) dX9_keep_26 0 rfl ?_
    refine xw_aload_n hf (pc := 28) dX9_keep_28 rfl 1 rfl ?_
    refine xw_get hf (pc := 29) dX9_keep_29 (T := TX9) mi_X9_keep_X9 rfl 0 rfl 13 (by decide) rfl mw_X9_keep_0 rfl ?_
    refine xw_icmp_gt hf (pc := 32) dX9_keep_32 (tgt := 46) rfl ⟨fun c => ?_, fun c => ?_⟩
    · have h := h.1 c
      refine xw_iload_n hf (pc := 46) dX9_keep_46 rfl 2 rfl ?_
      exact xw_iret hf (pc := 47) dX9_keep_47 hr (Nat.le_of_ble_eq_true rfl) (Nat.le_of_ble_eq_true rfl) ⟨_, _, _, _, rfl, rfl, h⟩
    · have h := h.2 c
      refine xw_aload_n hf (pc := 35) dX9_keep_35 rfl 1 rfl ?_
      refine xw_iload_n hf (pc := 36) dX9_keep_36 rfl 3 rfl ?_
      refine xw_iload_n hf (pc := 37) dX9_keep_37 rfl 4 rfl ?_
      refine xw_iload hf (pc := 38) dX9_keep_38 5 rfl ?_
      refine xw_callV hf (pc := 40) (nA := 3) (Xr := [(a4, .inl (gI (xg x), 3, .inl v9))]) (rest := []) (T := TX9) (c_X9_canCut (xl x) (xg x) a0 a1 a2 a3 a5 a6 a7 a8 a9 a10 a11 a12 a13 a4 v0 v1 v2 v3 v4 v5 v6 v7 v8 p2 p3 p4 h) gX9_keep_X9_canCut (by rfl) rfl rfl (by decide +kernel) ⟨⟨(Nat.le_of_ble_eq_true rfl), (Nat.le_of_ble_eq_true rfl)⟩, (Nat.le_of_ble_eq_true rfl), (Nat.le_of_ble_eq_true rfl)⟩ (Nat.le_of_ble_eq_true rfl) rfl rfl (sb_of [0, 1, 2, 3, 4] rfl rfl) rfl dX9_keep_40 (fun v X1 hp => ?_)
      obtain ⟨r5, w6, rfl, rfl, h⟩ := hp
      refine xw_X (sb_of [0, 1, 2, 3, 4] rfl rfl) (show ww x (W_X9_keep (xg x) a0 a1 a2 a3 a4 a5 a6 a7 a8 a9 a10 a11 a12 a13 v0 v1 v2 v3 v4 v5 v6 v7 w6 v9) [(5, .int y4), (0, .ref a0), (1, .int p1), (2, .int p2), (3, .int p3), (4, .int p4)] 0 0 43 [.int r5] from ?_)
      refine xw_if_ne hf (pc := 43) dX9_keep_43 (c := r5 = 0) Iff.rfl (tgt := 48) rfl ⟨fun c => ?_, fun c => ?_⟩
      · have h := h.1 c
        refine xw_iload_n hf (pc := 46) dX9_keep_46 rfl 2 rfl ?_
        exact xw_iret hf (pc := 47) dX9_keep_47 hr (Nat.le_of_ble_eq_true rfl) (Nat.le_of_ble_eq_true rfl) ⟨_, _, _, _, rfl, rfl, h⟩
      · have h := h.2 c
        refine xw_aload_n hf (pc := 48) dX9_keep_48 rfl 1 rfl ?_
        refine xw_get hf (pc := 49) dX9_keep_49 (T := TX9) mi_X9_keep_X9 rfl 0 rfl 17 (by decide) rfl mw_X9_keep_1 rfl ?_
        refine xw_iconst hf (pc := 52) dX9_keep_52 (v := 0) (by decide) ?_
        refine xw_iload_n hf (pc := 53) dX9_keep_53 rfl 3 rfl ?_
        refine xw_iast hf (pc := 54) dX9_keep_54 4 rfl h.1 (W_X9_keep (xg x) a0 a1 a2 a3 a4 a5 a6 a7 a8 a9 a10 a11 a12 a13 v0 v1 v2 v3 v4 v5 v6 v7 w6 (upd v9 (0 : Int32).toNatClampNeg p2)) rfl ?_
        have h := h.2
        refine xw_aload_n hf (pc := 55) dX9_keep_55 rfl 1 rfl ?_
        refine xw_get hf (pc := 56) dX9_keep_56 (T := TX9) mi_X9_keep_X9 rfl 0 rfl 17 (by decide) rfl mw_X9_keep_1 rfl ?_
        refine xw_iconst hf (pc := 59) dX9_keep_59 (v := 1) (by decide) ?_
        refine xw_iload_n hf (pc := 60) dX9_keep_60 rfl 4 rfl ?_
        refine xw_iast hf (pc := 61) dX9_keep_61 4 rfl h.1 (W_X9_keep (xg x) a0 a1 a2 a3 a4 a5 a6 a7 a8 a9 a10 a11 a12 a13 v0 v1 v2 v3 v4 v5 v6 v7 w6 (upd (upd v9 (0 : Int32).toNatClampNeg p2) (1 : Int32).toNatClampNeg p3)) rfl ?_
        have h := h.2
        refine xw_aload_n hf (pc := 62) dX9_keep_62 rfl 1 rfl ?_
        refine xw_get hf (pc := 63) dX9_keep_63 (T := TX9) mi_X9_keep_X9 rfl 0 rfl 17 (by decide) rfl mw_X9_keep_1 rfl ?_
        refine xw_iconst hf (pc := 66) dX9_keep_66 (v := 2) (by decide) ?_
        refine xw_iload hf (pc := 67) dX9_keep_67 5 rfl ?_
        refine xw_iast hf (pc := 69) dX9_keep_69 4 rfl h.1 (W_X9_keep (xg x) a0 a1 a2 a3 a4 a5 a6 a7 a8 a9 a10 a11 a12 a13 v0 v1 v2 v3 v4 v5 v6 v7 w6 (upd (upd (upd v9 (0 : Int32).toNatClampNeg p2) (1 : Int32).toNatClampNeg p3) (2 : Int32).toNatClampNeg p4)) rfl ?_
        have h := h.2
        refine xw_aload_n hf (pc := 70) dX9_keep_70 rfl 1 rfl ?_
        refine xw_iload_n hf (pc := 71) dX9_keep_71 rfl 3 rfl ?_
        refine xw_iconst hf (pc := 72) dX9_keep_72 (v := (-1)) (by decide) ?_
        refine xw_icmp_ne hf (pc := 73) dX9_keep_73 (tgt := 80) rfl ⟨fun c => ?_, fun c => ?_⟩
        · have h := h.1 c
          refine xw_iconst hf (pc := 76) dX9_keep_76 (v := 0) (by decide) ?_
          refine xw_goto hf (pc := 77) dX9_keep_77 (tgt := 81) rfl ?_
          refine xw_iload_n hf (pc := 81) dX9_keep_81 rfl 4 rfl ?_
          refine xw_iconst hf (pc := 82) dX9_keep_82 (v := (-1)) (by decide) ?_
          refine xw_icmp_ne hf (pc := 83) dX9_keep_83 (tgt := 90) rfl ⟨fun c => ?_, fun c => ?_⟩
          · have h := h.1 c
            refine xw_iconst hf (pc := 86) dX9_keep_86 (v := 0) (by decide) ?_
            refine xw_goto hf (pc := 87) dX9_keep_87 (tgt := 91) rfl ?_
            refine xw_iadd hf (pc := 91) dX9_keep_91 ?_
            refine xw_iload hf (pc := 92) dX9_keep_92 5 rfl ?_
            refine xw_iconst hf (pc := 94) dX9_keep_94 (v := (-1)) (by decide) ?_
            refine xw_icmp_ne hf (pc := 95) dX9_keep_95 (tgt := 102) rfl ⟨fun c => ?_, fun c => ?_⟩
            · have h := h.1 c
              refine xw_iconst hf (pc := 98) dX9_keep_98 (v := 0) (by decide) ?_
              refine xw_goto hf (pc := 99) dX9_keep_99 (tgt := 103) rfl ?_
              refine xw_iadd hf (pc := 103) dX9_keep_103 ?_
              refine xw_put hf (pc := 104) dX9_keep_104 (T := TX9) mi_X9_keep_X9 rfl tyX9_ok nmX9 0 rfl 18 (by decide) rfl mw_X9_keep_2 rfl rfl rfl rfl (Nat.le_of_ble_eq_true rfl) (W_X9_keep (xg x) a0 a1 a2 a3 a4 a5 a6 a7 a8 a9 a10 a11 a12 a13 v0 v1 v2 v3 v4 ((0 + 0) + 0) v6 v7 w6 (upd (upd (upd v9 (0 : Int32).toNatClampNeg p2) (1 : Int32).toNatClampNeg p3) (2 : Int32).toNatClampNeg p4)) rfl ?_
              refine xw_iload hf (pc := 107) dX9_keep_107 0 rfl ?_
              exact xw_iret hf (pc := 109) dX9_keep_109 hr (Nat.le_of_ble_eq_true rfl) (Nat.le_of_ble_eq_true rfl) ⟨_, _, _, _, rfl, rfl, h⟩
            · have h := h.2 c
              refine xw_iconst hf (pc := 102) dX9_keep_102 (v := 1) (by decide) ?_
              refine xw_iadd hf (pc := 103) dX9_keep_103 ?_
              refine xw_put hf (pc := 104) dX9_keep_104 (T := TX9) mi_X9_keep_X9 rfl tyX9_ok nmX9 0 rfl 18 (by decide) rfl mw_X9_keep_2 rfl rfl rfl rfl (Nat.le_of_ble_eq_true rfl) (W_X9_keep (xg x) a0 a1 a2 a3 a4 a5 a6 a7 a8 a9 a10 a11 a12 a13 v0 v1 v2 v3 v4 ((0 + 0) + 1) v6 v7 w6 (upd (upd (upd v9 (0 : Int32).toNatClampNeg p2) (1 : Int32).toNatClampNeg p3) (2 : Int32).toNatClampNeg p4)) rfl ?_
              refine xw_iload hf (pc := 107) dX9_keep_107 0 rfl ?_
              exact xw_iret hf (pc := 109) dX9_keep_109 hr (Nat.le_of_ble_eq_true rfl) (Nat.le_of_ble_eq_true rfl) ⟨_, _, _, _, rfl, rfl, h⟩
          · have h := h.2 c
            refine xw_iconst hf (pc := 90) dX9_keep_90 (v := 1) (by decide) ?_
            refine xw_iadd hf (pc := 91) dX9_keep_91 ?_
            refine xw_iload hf (pc := 92) dX9_keep_92 5 rfl ?_
            refine xw_iconst hf (pc := 94) dX9_keep_94 (v := (-1)) (by decide) ?_
            refine xw_icmp_ne hf (pc := 95) dX9_keep_95 (tgt := 102) rfl ⟨fun c => ?_, fun c => ?_⟩
            · have h := h.1 c
              refine xw_iconst hf (pc := 98) dX9_keep_98 (v := 0) (by decide) ?_
              refine xw_goto hf (pc := 99) dX9_keep_99 (tgt := 103) rfl ?_
              refine xw_iadd hf (pc := 103) dX9_keep_103 ?_
              refine xw_put hf (pc := 104) dX9_keep_104 (T := TX9) mi_X9_keep_X9 rfl tyX9_ok nmX9 0 rfl 18 (by decide) rfl mw_X9_keep_2 rfl rfl rfl rfl (Nat.le_of_ble_eq_true rfl) (W_X9_keep (xg x) a0 a1 a2 a3 a4 a5 a6 a7 a8 a9 a10 a11 a12 a13 v0 v1 v2 v3 v4 ((0 + 1) + 0) v6 v7 w6 (upd (upd (upd v9 (0 : Int32).toNatClampNeg p2) (1 : Int32).toNatClampNeg p3) (2 : Int32).toNatClampNeg p4)) rfl ?_
              refine xw_iload hf (pc := 107) dX9_keep_107 0 rfl ?_
              exact xw_iret hf (pc := 109) dX9_keep_109 hr (Nat.le_of_ble_eq_true rfl) (Nat.le_of_ble_eq_true rfl) ⟨_, _, _, _, rfl, rfl, h⟩
            · have h := h.2 c
              refine xw_iconst hf (pc := 102) dX9_keep_102 (v := 1) (by decide) ?_
              refine xw_iadd hf (pc := 103) dX9_keep_103 ?_
              refine xw_put hf (pc := 104) dX9_keep_104 (T := TX9) mi_X9_keep_X9 rfl tyX9_ok nmX9 0 rfl 18 (by decide) rfl mw_X9_keep_2 rfl rfl rfl rfl (Nat.le_of_ble_eq_true rfl) (W_X9_keep (xg x) a0 a1 a2 a3 a4 a5 a6 a7 a8 a9 a10 a11 a12 a13 v0 v1 v2 v3 v4 ((0 + 1) + 1) v6 v7 w6 (upd (upd (upd v9 (0 : Int32).toNatClampNeg p2) (1 : Int32).toNatClampNeg p3) (2 : Int32).toNatClampNeg p4)) rfl ?_
              refine xw_iload hf (pc := 107) dX9_keep_107 0 rfl ?_
              exact xw_iret hf (pc := 109) dX9_keep_109 hr (Nat.le_of_ble_eq_true rfl) (Nat.le_of_ble_eq_true rfl) ⟨_, _, _, _, rfl, rfl, h⟩
        · have h := h.2 c
          refine xw_iconst hf (pc := 80) dX9_keep_80 (v := 1) (by decide) ?_
          refine xw_iload_n hf (pc := 81) dX9_keep_81 rfl 4 rfl ?_
          refine xw_iconst hf (pc := 82) dX9_keep_82 (v := (-1)) (by decide) ?_
          refine xw_icmp_ne hf (pc := 83) dX9_keep_83 (tgt := 90) rfl ⟨fun c => ?_, fun c => ?_⟩
          · have h := h.1 c
            refine xw_iconst hf (pc := 86) dX9_keep_86 (v := 0) (by decide) ?_
            refine xw_goto hf (pc := 87) dX9_keep_87 (tgt := 91) rfl ?_
            refine xw_iadd hf (pc := 91) dX9_keep_91 ?_
            refine xw_iload hf (pc := 92) dX9_keep_92 5 rfl ?_
            refine xw_iconst hf (pc := 94) dX9_keep_94 (v := (-1)) (by decide) ?_
            refine xw_icmp_ne hf (pc := 95) dX9_keep_95 (tgt := 102) rfl ⟨fun c => ?_, fun c => ?_⟩
            · have h := h.1 c
              refine xw_iconst hf (pc := 98) dX9_keep_98 (v := 0) (by decide) ?_
              refine xw_goto hf (pc := 99) dX9_keep_99 (tgt := 103) rfl ?_
              refine xw_iadd hf (pc := 103) dX9_keep_103 ?_
              refine xw_put hf (pc := 104) dX9_keep_104 (T := TX9) mi_X9_keep_X9 rfl tyX9_ok nmX9 0 rfl 18 (by decide) rfl mw_X9_keep_2 rfl rfl rfl rfl (Nat.le_of_ble_eq_true rfl) (W_X9_keep (xg x) a0 a1 a2 a3 a4 a5 a6 a7 a8 a9 a10 a11 a12 a13 v0 v1 v2 v3 v4 ((1 + 0) + 0) v6 v7 w6 (upd (upd (upd v9 (0 : Int32).toNatClampNeg p2) (1 : Int32).toNatClampNeg p3) (2 : Int32).toNatClampNeg p4)) rfl ?_
              refine xw_iload hf (pc := 107) dX9_keep_107 0 rfl ?_
              exact xw_iret hf (pc := 109) dX9_keep_109 hr (Nat.le_of_ble_eq_true rfl) (Nat.le_of_ble_eq_true rfl) ⟨_, _, _, _, rfl, rfl, h⟩
            · have h := h.2 c
              refine xw_iconst hf (pc := 102) dX9_keep_102 (v := 1) (by decide) ?_
              refine xw_iadd hf (pc := 103) dX9_keep_103 ?_
              refine xw_put hf (pc := 104) dX9_keep_104 (T := TX9) mi_X9_keep_X9 rfl tyX9_ok nmX9 0 rfl 18 (by decide) rfl mw_X9_keep_2 rfl rfl rfl rfl (Nat.le_of_ble_eq_true rfl) (W_X9_keep (xg x) a0 a1 a2 a3 a4 a5 a6 a7 a8 a9 a10 a11 a12 a13 v0 v1 v2 v3 v4 ((1 + 0) + 1) v6 v7 w6 (upd (upd (upd v9 (0 : Int32).toNatClampNeg p2) (1 : Int32).toNatClampNeg p3) (2 : Int32).toNatClampNeg p4)) rfl ?_
              refine xw_iload hf (pc := 107) dX9_keep_107 0 rfl ?_
              exact xw_iret hf (pc := 109) dX9_keep_109 hr (Nat.le_of_ble_eq_true rfl) (Nat.le_of_ble_eq_true rfl) ⟨_, _, _, _, rfl, rfl, h⟩
          · have h := h.2 c
            refine xw_iconst hf (pc := 90) dX9_keep_90 (v := 1) (by decide) ?_
            refine xw_iadd hf (pc := 91) dX9_keep_91 ?_
            refine xw_iload hf (pc := 92) dX9_keep_92 5 rfl ?_
            refine xw_iconst hf (pc := 94) dX9_keep_94 (v := (-1)) (by decide) ?_
            refine xw_icmp_ne hf (pc := 95) dX9_keep_95 (tgt := 102) rfl ⟨fun c => ?_, fun c => ?_⟩
            · have h := h.1 c
              refine xw_iconst hf (pc := 98) dX9_keep_98 (v := 0) (by decide) ?_
              refine xw_goto hf (pc := 99) dX9_keep_99 (tgt := 103) rfl ?_
              refine xw_iadd hf (pc := 103) dX9_keep_103 ?_
              refine xw_put hf (pc := 104) dX9_keep_104 (T := TX9) mi_X9_keep_X9 rfl tyX9_ok nmX9 0 rfl 18 (by decide) rfl mw_X9_keep_2 rfl rfl rfl rfl (Nat.le_of_ble_eq_true rfl) (W_X9_keep (xg x) a0 a1 a2 a3 a4 a5 a6 a7 a8 a9 a10 a11 a12 a13 v0 v1 v2 v3 v4 ((1 + 1) + 0) v6 v7 w6 (upd (upd (upd v9 (0 : Int32).toNatClampNeg p2) (1 : Int32).toNatClampNeg p3) (2 : Int32).toNatClampNeg p4)) rfl ?_
              refine xw_iload hf (pc := 107) dX9_keep_107 0 rfl ?_
              exact xw_iret hf (pc := 109) dX9_keep_109 hr (Nat.le_of_ble_eq_true rfl) (Nat.le_of_ble_eq_true rfl) ⟨_, _, _, _, rfl, rfl, h⟩
            · have h := h.2 c
              refine xw_iconst hf (pc := 102) dX9_keep_102 (v := 1) (by decide) ?_
              refine xw_iadd hf (pc := 103) dX9_keep_103 ?_
              refine xw_put hf (pc := 104) dX9_keep_104 (T := TX9) mi_X9_keep_X9 rfl tyX9_ok nmX9 0 rfl 18 (by decide) rfl mw_X9_keep_2 rfl rfl rfl rfl (Nat.le_of_ble_eq_true rfl) (W_X9_keep (xg x) a0 a1 a2 a3 a4 a5 a6 a7 a8 a9 a10 a11 a12 a13 v0 v1 v2 v3 v4 ((1 + 1) + 1) v6 v7 w6 (upd (upd (upd v9 (0 : Int32).toNatClampNeg p2) (1 : Int32).toNatClampNeg p3) (2 : Int32).toNatClampNeg p4)) rfl ?_
              refine xw_iload hf (pc := 107) dX9_keep_107 0 rfl ?_
              exact xw_iret hf (pc := 109) dX9_keep_109 hr (Nat.le_of_ble_eq_true rfl) (Nat.le_of_ble_eq_true rfl) ⟨_, _, _, _, rfl, rfl, h⟩
abbrev W_X9_findPlan (g : Gx) (a0 a1 a2 a3 a4 a5 a6 a7 a8 a9 a10 a11 a12 a13 : Nat) (v0 : Int32) (v1 : Int32) (v2 : Int32) (v3 : Int32) (v4 : Int32) (v5 : Int32) (v6 : Nat → Int64) (v7 : Nat → Int32) (v8 : Nat → Int32) (v9 : Nat → Int32) (v10 : Nat → Int32) (v11 : Nat → Int32) : va_W := [(a0, .inr (9, [.int v0, .ref a1, .int v1, .ref a7, .ref a8, .ref a9, .ref a10, .ref a11, .ref a12, .ref a13, .int v2, .int v3, .ref a2, .int v4, .ref a3, .ref a4, .ref a5, .ref a6, .int v5])), (a1, .inl (gJ g, 60, .inr (.inl v6))), (a2, .inl (gI g, 12, .inl v7)), (a3, .inl (gI g, 27, .inl v8)), (a4, .inl (gI g, 27, .inl v9)), (a5, .inl (gI g, 60, .inl v10)), (a6, .inl (gI g, 3, .inl v11))]
abbrev rm_X9_findPlan : Room := { frames := 3, cells := 0, slots := 0, locals := 74 }
theorem mw_X9_findPlan_0 : (Cond.fieldLink RX9 190 "AnagramButcherModel" "planned" "I" : Cond) ∈ wsX9_findPlan := (List.mem_cons_of_mem _ (List.mem_append_left _ (List.mem_append_left _ (List.mem_of_getElem? (l := wsX9_findPlan_r1) (i := 0) rfl))))
theorem mw_X9_findPlan_1 : (Cond.fieldLink RX9 45 "AnagramButcherModel" "order" "[I" : Cond) ∈ wsX9_findPlan := (List.mem_cons_of_mem _ (List.mem_append_left _ (List.mem_append_left _ (List.mem_of_getElem? (l := wsX9_findPlan_r1) (i := 1) rfl))))
theorem mw_X9_findPlan_2 : (Cond.fieldLink RX9 69 "AnagramButcherModel" "speltCount" "I" : Cond) ∈ wsX9_findPlan := (List.mem_cons_of_mem _ (List.mem_append_left _ (List.mem_append_left _ (List.mem_of_getElem? (l := wsX9_findPlan_r1) (i := 2) rfl))))
theorem mi_X9_findPlan_X9 : ∀ w ∈ wsX90, w ∈ wsX9_findPlan := fun _ h => (List.mem_cons_of_mem _ (List.mem_append_right _ h))
set_option maxHeartbeats 4000000 in
set_option maxRecDepth 100000 in
theorem w_X9_findPlan_L22 {x : Cx} (hf : fx x (rm_X9_findPlan) RX9 cX9_findPlan wsX9_findPlan) (hn : xn x = 9) {k0 n0 : Nat} (hk : k0 ≤ (rm_X9_findPlan).cells ∧ n0 ≤ (rm_X9_findPlan).slots) (a0 a1 a2 a3 a4 a5 a6 a7 a8 a9 a10 a11 a12 a13 : Nat) (z3 : Int32) (z4 : Int32) (v0 : Int32) (v1 : Int32) (v2 : Int32) (v3 : Int32) (v4 : Int32) (v6 : Nat → Int64) (v8 : Nat → Int32) (v10 : Nat → Int32) (v7 : Nat → Int32) {K52 : Int32 → Int32 → (Nat → Int32) → (Nat → Int32) → Prop}
    (n : Nat) (z5 : Int32) (z6 : Int32) (v5 : Int32) (v9 : Nat → Int32) (v11 : Nat → Int32) (h : P_X9_findPlan_L22 z3 z4 v0 v1 v2 v3 v4 v6 v8 v10 K52 n z5 z6 v5 v9 v11)
    (hK52 : ∀ (y5 : Int32), ∀ (uv5 : Int32), ∀ (uv9 : Nat → Int32), ∀ (uv11 : Nat → Int32), K52 y5 uv5 uv9 uv11 → ww x (W_X9_findPlan (xg x) a0 a1 a2 a3 a4 a5 a6 a7 a8 a9 a10 a11 a12 a13 v0 v1 v2 v3 v4 uv5 v6 v7 v8 uv9 v10 uv11) [(0, .ref a0), (3, .int z3), (4, .int z4), (5, .int y5)] k0 n0 52 []) :
    ww x (W_X9_findPlan (xg x) a0 a1 a2 a3 a4 a5 a6 a7 a8 a9 a10 a11 a12 a13 v0 v1 v2 v3 v4 v5 v6 v7 v8 v9 v10 v11) [(0, .ref a0), (3, .int z3), (4, .int z4), (5, .int z5), (6, .int z6)] k0 n0 22 [] := by
  induction n generalizing z5 z6 v5 v9 v11 with
  | zero => exact h.elim
  | succ n ih =>
    unfold P_X9_findPlan_L22 at h
    refine xw_iload hf (pc := 22) dX9_findPlan_22 4 rfl ?_
    refine xw_iload hf (pc := 24) dX9_findPlan_24 2 rfl ?_
    refine xw_icmp_ge hf (pc := 26) dX9_findPlan_26 (tgt := 52) rfl ⟨fun c => ?_, fun c => ?_⟩
    · have h := h.1 c
      refine xw_L [0, 1, 2, 3] rfl ?_
      exact hK52 _ _ _ _ h
    · have h := h.2 c
      refine xw_aload_n hf (pc := 29) dX9_findPlan_29 rfl 0 rfl ?_
      refine xw_iload hf (pc := 30) dX9_findPlan_30 3 rfl ?_
      refine xw_aload_n hf (pc := 32) dX9_findPlan_32 rfl 0 rfl ?_
      refine xw_get hf (pc := 33) dX9_findPlan_33 (T := TX9) mi_X9_findPlan_X9 rfl 0 rfl 16 (by decide) rfl mw_X9_findPlan_1 rfl ?_
      refine xw_iload hf (pc := 36) dX9_findPlan_36 4 rfl ?_
      refine xw_iald hf (pc := 38) dX9_findPlan_38 5 rfl h.1 ?_
      have h := h.2
      refine xw_iconst hf (pc := 39) dX9_findPlan_39 (v := (-1)) (by decide) ?_
      refine xw_iconst hf (pc := 40) dX9_findPlan_40 (v := (-1)) (by decide) ?_
      refine xw_callV hf (pc := 41) (nA := 4) (Xr := [(a2, .inl (gI (xg x), 12, .inl v7)), (a5, .inl (gI (xg x), 60, .inl v10))]) (rest := []) (T := TX9) (c_X9_keep (xl x) (xg x) a0 a1 a3 a4 a6 a7 a8 a9 a10 a11 a12 a13 a2 a5 v0 v1 v2 v3 v4 v5 v6 v8 v9 v11 z5 (v10 z6.toNatClampNeg) (-1) (-1) h) gX9_findPlan_X9_keep (by rfl) rfl rfl (by decide +kernel) ⟨⟨(Nat.le_of_ble_eq_true rfl), (Nat.le_of_ble_eq_true rfl)⟩, hk.1, hk.2⟩ (Nat.le_of_ble_eq_true rfl) rfl rfl (sb_of [0, 1, 3, 4, 6, 2, 5] rfl rfl) rfl dX9_findPlan_41 (fun v X1 hp => ?_)
      obtain ⟨r7, w8, w9, w10, rfl, rfl, h⟩ := hp
      refine xw_X (sb_of [0, 1, 5, 2, 3, 6, 4] rfl rfl) (show ww x (W_X9_findPlan (xg x) a0 a1 a2 a3 a4 a5 a6 a7 a8 a9 a10 a11 a12 a13 v0 v1 v2 v3 v4 w8 v6 v7 v8 w9 v10 w10) [(0, .ref a0), (3, .int z3), (4, .int z4), (5, .int z5), (6, .int z6)] k0 n0 44 [.int r7] from ?_)
      refine xw_istore hf (pc := 44) dX9_findPlan_44 [(5, .int r7), (0, .ref a0), (3, .int z3), (4, .int z4), (6, .int z6)] hn (by decide) rfl ?_
      refine xw_iinc hf (pc := 46) dX9_findPlan_46 (v := z6 + 1) 4 rfl rfl [(6, .int (z6 + 1)), (5, .int r7), (0, .ref a0), (3, .int z3), (4, .int z4)] hn (by decide) rfl ?_
      refine xw_goto hf (pc := 49) dX9_findPlan_49 (tgt := 22) rfl ?_
      refine xw_L [2, 3, 4, 1, 0] rfl ?_
      exact ih _ _ _ _ _ h
set_option maxHeartbeats 4000000 in
set_option maxRecDepth 100000 in
theorem w_X9_findPlan_L71 {x : Cx} (hf : fx x (rm_X9_findPlan) RX9 cX9_findPlan wsX9_findPlan) (hn : xn x = 9) {k0 n0 : Nat} (hk : k0 ≤ (rm_X9_findPlan).cells ∧ n0 ≤ (rm_X9_findPlan).slots) (a0 a1 a2 a3 a4 a5 a6 a7 a8 a9 a10 a11 a12 a13 : Nat) (z3 : Int32) (z4 : Int32) (z6 : Int32) (v0 : Int32) (v1 : Int32) (v2 : Int32) (v3 : Int32) (v4 : Int32) (v6 : Nat → Int64) (v8 : Nat → Int32) (v10 : Nat → Int32) (v7 : Nat → Int32) {K107 : Int32 → Int32 → (Nat → Int32) → (Nat → Int32) → Prop}
    (n : Nat) (z5 : Int32) (z7 : Int32) (v5 : Int32) (v9 : Nat → Int32) (v11 : Nat → Int32) (h : P_X9_findPlan_L71 z3 z4 z6 v0 v1 v2 v3 v4 v6 v8 v10 K107 n z5 z7 v5 v9 v11)
    (hK107 : ∀ (y5 : Int32), ∀ (uv5 : Int32), ∀ (uv9 : Nat → Int32), ∀ (uv11 : Nat → Int32), K107 y5 uv5 uv9 uv11 → ww x (W_X9_findPlan (xg x) a0 a1 a2 a3 a4 a5 a6 a7 a8 a9 a10 a11 a12 a13 v0 v1 v2 v3 v4 uv5 v6 v7 v8 uv9 v10 uv11) [(0, .ref a0), (3, .int z3), (4, .int z4), (5, .int y5), (6, .int z6)] k0 n0 107 []) :
    ww x (W_X9_findPlan (xg x) a0 a1 a2 a3 a4 a5 a6 a7 a8 a9 a10 a11 a12 a13 v0 v1 v2 v3 v4 v5 v6 v7 v8 v9 v10 v11) [(0, .ref a0), (3, .int z3), (4, .int z4), (5, .int z5), (6, .int z6), (7, .int z7)] k0 n0 71 [] := by
  induction n generalizing z5 z7 v5 v9 v11 with
  | zero => exact h.elim
  | succ n ih =>
    unfold P_X9_findPlan_L71 at h
    refine xw_iload hf (pc := 71) dX9_findPlan_71 5 rfl ?_
    refine xw_iload hf (pc := 73) dX9_findPlan_73 2 rfl ?_
    refine xw_icmp_ge hf (pc := 75) dX9_findPlan_75 (tgt := 107) rfl ⟨fun c => ?_, fun c => ?_⟩
    · have h := h.1 c
      refine xw_L [0, 1, 2, 3, 4] rfl ?_
      exact hK107 _ _ _ _ h
    · have h := h.2 c
      refine xw_aload_n hf (pc := 78) dX9_findPlan_78 rfl 0 rfl ?_
      refine xw_iload hf (pc := 79) dX9_findPlan_79 3 rfl ?_
      refine xw_aload_n hf (pc := 81) dX9_findPlan_81 rfl 0 rfl ?_
      refine xw_get hf (pc := 82) dX9_findPlan_82 (T := TX9) mi_X9_findPlan_X9 rfl 0 rfl 16 (by decide) rfl mw_X9_findPlan_1 rfl ?_
      refine xw_iload hf (pc := 85) dX9_findPlan_85 4 rfl ?_
      refine xw_iald hf (pc := 87) dX9_findPlan_87 5 rfl h.1 ?_
      have h := h.2
      refine xw_aload_n hf (pc := 88) dX9_findPlan_88 rfl 0 rfl ?_
      refine xw_get hf (pc := 89) dX9_findPlan_89 (T := TX9) mi_X9_findPlan_X9 rfl 0 rfl 16 (by decide) rfl mw_X9_findPlan_1 rfl ?_
      refine xw_iload hf (pc := 92) dX9_findPlan_92 5 rfl ?_
      refine xw_iald hf (pc := 94) dX9_findPlan_94 5 rfl h.1 ?_
      have h := h.2
      refine xw_iconst hf (pc := 95) dX9_findPlan_95 (v := (-1)) (by decide) ?_
      refine xw_callV hf (pc := 96) (nA := 4) (Xr := [(a2, .inl (gI (xg x), 12, .inl v7)), (a5, .inl (gI (xg x), 60, .inl v10))]) (rest := []) (T := TX9) (c_X9_keep (xl x) (xg x) a0 a1 a3 a4 a6 a7 a8 a9 a10 a11 a12 a13 a2 a5 v0 v1 v2 v3 v4 v5 v6 v8 v9 v11 z5 (v10 z6.toNatClampNeg) (v10 z7.toNatClampNeg) (-1) h) gX9_findPlan_X9_keep (by rfl) rfl rfl (by decide +kernel) ⟨⟨(Nat.le_of_ble_eq_true rfl), (Nat.le_of_ble_eq_true rfl)⟩, hk.1, hk.2⟩ (Nat.le_of_ble_eq_true rfl) rfl rfl (sb_of [0, 1, 3, 4, 6, 2, 5] rfl rfl) rfl dX9_findPlan_96 (fun v X1 hp => ?_)
      obtain ⟨r15, w16, w17, w18, rfl, rfl, h⟩ := hp
      refine xw_X (sb_of [0, 1, 5, 2, 3, 6, 4] rfl rfl) (show ww x (W_X9_findPlan (xg x) a0 a1 a2 a3 a4 a5 a6 a7 a8 a9 a10 a11 a12 a13 v0 v1 v2 v3 v4 w16 v6 v7 v8 w17 v10 w18) [(0, .ref a0), (3, .int z3), (4, .int z4), (5, .int z5), (6, .int z6), (7, .int z7)] k0 n0 99 [.int r15] from ?_)
      refine xw_istore hf (pc := 99) dX9_findPlan_99 [(5, .int r15), (0, .ref a0), (3, .int z3), (4, .int z4), (6, .int z6), (7, .int z7)] hn (by decide) rfl ?_
      refine xw_iinc hf (pc := 101) dX9_findPlan_101 (v := z7 + 1) 5 rfl rfl [(7, .int (z7 + 1)), (5, .int r15), (0, .ref a0), (3, .int z3), (4, .int z4), (6, .int z6)] hn (by decide) rfl ?_
      refine xw_goto hf (pc := 104) dX9_findPlan_104 (tgt := 71) rfl ?_
      refine xw_L [2, 3, 4, 1, 5, 0] rfl ?_
      exact ih _ _ _ _ _ h
set_option maxHeartbeats 4000000 in
set_option maxRecDepth 100000 in
theorem w_X9_findPlan_L55 {x : Cx} (hf : fx x (rm_X9_findPlan) RX9 cX9_findPlan wsX9_findPlan) (hn : xn x = 9) {k0 n0 : Nat} (hk : k0 ≤ (rm_X9_findPlan).cells ∧ n0 ≤ (rm_X9_findPlan).slots) (a0 a1 a2 a3 a4 a5 a6 a7 a8 a9 a10 a11 a12 a13 : Nat) (z3 : Int32) (z4 : Int32) (v0 : Int32) (v1 : Int32) (v2 : Int32) (v3 : Int32) (v4 : Int32) (v6 : Nat → Int64) (v8 : Nat → Int32) (v10 : Nat → Int32) (v7 : Nat → Int32) {K113 : Int32 → Int32 → (Nat → Int32) → (Nat → Int32) → Prop}
    (n : Nat) (z5 : Int32) (z6 : Int32) (v5 : Int32) (v9 : Nat → Int32) (v11 : Nat → Int32) (h : P_X9_findPlan_L55 z3 z4 v0 v1 v2 v3 v4 v6 v8 v10 K113 n z5 z6 v5 v9 v11)
    (hK113 : ∀ (y5 : Int32), ∀ (uv5 : Int32), ∀ (uv9 : Nat → Int32), ∀ (uv11 : Nat → Int32), K113 y5 uv5 uv9 uv11 → ww x (W_X9_findPlan (xg x) a0 a1 a2 a3 a4 a5 a6 a7 a8 a9 a10 a11 a12 a13 v0 v1 v2 v3 v4 uv5 v6 v7 v8 uv9 v10 uv11) [(0, .ref a0), (3, .int z3), (4, .int z4), (5, .int y5)] k0 n0 113 []) :
    ww x (W_X9_findPlan (xg x) a0 a1 a2 a3 a4 a5 a6 a7 a8 a9 a10 a11 a12 a13 v0 v1 v2 v3 v4 v5 v6 v7 v8 v9 v10 v11) [(0, .ref a0), (3, .int z3), (4, .int z4), (5, .int z5), (6, .int z6)] k0 n0 55 [] := by
  induction n generalizing z5 z6 v5 v9 v11 with
  | zero => exact h.elim
  | succ n ih =>
    unfold P_X9_findPlan_L55 at h
    refine xw_iload hf (pc := 55) dX9_findPlan_55 4 rfl ?_
    refine xw_iload hf (pc := 57) dX9_findPlan_57 2 rfl ?_
    refine xw_icmp_ge hf (pc := 59) dX9_findPlan_59 (tgt := 113) rfl ⟨fun c => ?_, fun c => ?_⟩
    · have h := h.1 c
      refine xw_L [0, 1, 2, 3] rfl ?_
      exact hK113 _ _ _ _ h
    · have h := h.2 c
      refine xw_iload_n hf (pc := 62) dX9_findPlan_62 rfl 1 rfl ?_
      refine xw_iconst hf (pc := 63) dX9_findPlan_63 (v := 1) (by decide) ?_
      refine xw_icmp_le hf (pc := 64) dX9_findPlan_64 (tgt := 113) rfl ⟨fun c => ?_, fun c => ?_⟩
      · have h := h.1 c
        refine xw_L [0, 1, 2, 3] rfl ?_
        exact hK113 _ _ _ _ h
      · have h := h.2 c
        refine xw_iload hf (pc := 67) dX9_findPlan_67 4 rfl ?_
        refine xw_istore hf (pc := 69) dX9_findPlan_69 [(7, .int z6), (0, .ref a0), (3, .int z3), (4, .int z4), (5, .int z5), (6, .int z6)] hn (by decide) rfl ?_
        refine xw_L [1, 2, 3, 4, 5, 0] rfl ?_
        refine w_X9_findPlan_L71 hf hn ⟨hk.1, hk.2⟩ a0 a1 a2 a3 a4 a5 a6 a7 a8 a9 a10 a11 a12 a13 z3 z4 z6 v0 v1 v2 v3 v4 v6 v8 v10 v7 FU _ _ _ _ _ h (fun x19 w20 w21 w22 h => ?_)
        refine xw_iinc hf (pc := 107) dX9_findPlan_107 (v := z6 + 1) 4 rfl rfl [(6, .int (z6 + 1)), (0, .ref a0), (3, .int z3), (4, .int z4), (5, .int x19)] hn (by decide) rfl ?_
        refine xw_goto hf (pc := 110) dX9_findPlan_110 (tgt := 55) rfl ?_
        refine xw_L [1, 2, 3, 4, 0] rfl ?_
        exact ih _ _ _ _ _ h
set_option maxHeartbeats 4000000 in
set_option maxRecDepth 100000 in
theorem w_X9_findPlan_L143 {x : Cx} (hf : fx x (rm_X9_findPlan) RX9 cX9_findPlan wsX9_findPlan) (hn : xn x = 9) {k0 n0 : Nat} (hk : k0 ≤ (rm_X9_findPlan).cells ∧ n0 ≤ (rm_X9_findPlan).slots) (a0 a1 a2 a3 a4 a5 a6 a7 a8 a9 a10 a11 a12 a13 : Nat) (z3 : Int32) (z4 : Int32) (z6 : Int32) (z7 : Int32) (v0 : Int32) (v1 : Int32) (v2 : Int32) (v3 : Int32) (v4 : Int32) (v6 : Nat → Int64) (v8 : Nat → Int32) (v10 : Nat → Int32) (v7 : Nat → Int32) {K185 : Int32 → Int32 → (Nat → Int32) → (Nat → Int32) → Prop}
    (n : Nat) (z5 : Int32) (z8 : Int32) (v5 : Int32) (v9 : Nat → Int32) (v11 : Nat → Int32) (h : P_X9_findPlan_L143 z3 z4 z6 z7 v0 v1 v2 v3 v4 v6 v8 v10 K185 n z5 z8 v5 v9 v11)
    (hK185 : ∀ (y5 : Int32), ∀ (uv5 : Int32), ∀ (uv9 : Nat → Int32), ∀ (uv11 : Nat → Int32), K185 y5 uv5 uv9 uv11 → ww x (W_X9_findPlan (xg x) a0 a1 a2 a3 a4 a5 a6 a7 a8 a9 a10 a11 a12 a13 v0 v1 v2 v3 v4 uv5 v6 v7 v8 uv9 v10 uv11) [(0, .ref a0), (3, .int z3), (4, .int z4), (5, .int y5), (6, .int z6), (7, .int z7)] k0 n0 185 []) :
    ww x (W_X9_findPlan (xg x) a0 a1 a2 a3 a4 a5 a6 a7 a8 a9 a10 a11 a12 a13 v0 v1 v2 v3 v4 v5 v6 v7 v8 v9 v10 v11) [(0, .ref a0), (3, .int z3), (4, .int z4), (5, .int z5), (6, .int z6), (7, .int z7), (8, .int z8)] k0 n0 143 [] := by
  induction n generalizing z5 z8 v5 v9 v11 with
  | zero => exact h.elim
  | succ n ih =>
    unfold P_X9_findPlan_L143 at h
    refine xw_iload hf (pc := 143) dX9_findPlan_143 6 rfl ?_
    refine xw_iload hf (pc := 145) dX9_findPlan_145 2 rfl ?_
    refine xw_icmp_ge hf (pc := 147) dX9_findPlan_147 (tgt := 185) rfl ⟨fun c => ?_, fun c => ?_⟩
    · have h := h.1 c
      refine xw_L [0, 1, 2, 3, 4, 5] rfl ?_
      exact hK185 _ _ _ _ h
    · have h := h.2 c
      refine xw_aload_n hf (pc := 150) dX9_findPlan_150 rfl 0 rfl ?_
      refine xw_iload hf (pc := 151) dX9_findPlan_151 3 rfl ?_
      refine xw_aload_n hf (pc := 153) dX9_findPlan_153 rfl 0 rfl ?_
      refine xw_get hf (pc := 154) dX9_findPlan_154 (T := TX9) mi_X9_findPlan_X9 rfl 0 rfl 16 (by decide) rfl mw_X9_findPlan_1 rfl ?_
      refine xw_iload hf (pc := 157) dX9_findPlan_157 4 rfl ?_
      refine xw_iald hf (pc := 159) dX9_findPlan_159 5 rfl h.1 ?_
      have h := h.2
      refine xw_aload_n hf (pc := 160) dX9_findPlan_160 rfl 0 rfl ?_
      refine xw_get hf (pc := 161) dX9_findPlan_161 (T := TX9) mi_X9_findPlan_X9 rfl 0 rfl 16 (by decide) rfl mw_X9_findPlan_1 rfl ?_
      refine xw_iload hf (pc := 164) dX9_findPlan_164 5 rfl ?_
      refine xw_iald hf (pc := 166) dX9_findPlan_166 5 rfl h.1 ?_
      have h := h.2
      refine xw_aload_n hf (pc := 167) dX9_findPlan_167 rfl 0 rfl ?_
      refine xw_get hf (pc := 168) dX9_findPlan_168 (T := TX9) mi_X9_findPlan_X9 rfl 0 rfl 16 (by decide) rfl mw_X9_findPlan_1 rfl ?_
      refine xw_iload hf (pc := 171) dX9_findPlan_171 6 rfl ?_
      refine xw_iald hf (pc := 173) dX9_findPlan_173 5 rfl h.1 ?_
      have h := h.2
      refine xw_callV hf (pc := 174) (nA := 4) (Xr := [(a2, .inl (gI (xg x), 12, .inl v7)), (a5, .inl (gI (xg x), 60, .inl v10))]) (rest := []) (T := TX9) (c_X9_keep (xl x) (xg x) a0 a1 a3 a4 a6 a7 a8 a9 a10 a11 a12 a13 a2 a5 v0 v1 v2 v3 v4 v5 v6 v8 v9 v11 z5 (v10 z6.toNatClampNeg) (v10 z7.toNatClampNeg) (v10 z8.toNatClampNeg) h) gX9_findPlan_X9_keep (by rfl) rfl rfl (by decide +kernel) ⟨⟨(Nat.le_of_ble_eq_true rfl), (Nat.le_of_ble_eq_true rfl)⟩, hk.1, hk.2⟩ (Nat.le_of_ble_eq_true rfl) rfl rfl (sb_of [0, 1, 3, 4, 6, 2, 5] rfl rfl) rfl dX9_findPlan_174 (fun v X1 hp => ?_)
      obtain ⟨r27, w28, w29, w30, rfl, rfl, h⟩ := hp
      refine xw_X (sb_of [0, 1, 5, 2, 3, 6, 4] rfl rfl) (show ww x (W_X9_findPlan (xg x) a0 a1 a2 a3 a4 a5 a6 a7 a8 a9 a10 a11 a12 a13 v0 v1 v2 v3 v4 w28 v6 v7 v8 w29 v10 w30) [(0, .ref a0), (3, .int z3), (4, .int z4), (5, .int z5), (6, .int z6), (7, .int z7), (8, .int z8)] k0 n0 177 [.int r27] from ?_)
      refine xw_istore hf (pc := 177) dX9_findPlan_177 [(5, .int r27), (0, .ref a0), (3, .int z3), (4, .int z4), (6, .int z6), (7, .int z7), (8, .int z8)] hn (by decide) rfl ?_
      refine xw_iinc hf (pc := 179) dX9_findPlan_179 (v := z8 + 1) 6 rfl rfl [(8, .int (z8 + 1)), (5, .int r27), (0, .ref a0), (3, .int z3), (4, .int z4), (6, .int z6), (7, .int z7)] hn (by decide) rfl ?_
      refine xw_goto hf (pc := 182) dX9_findPlan_182 (tgt := 143) rfl ?_
      refine xw_L [2, 3, 4, 1, 5, 6, 0] rfl ?_
      exact ih _ _ _ _ _ h
set_option maxHeartbeats 4000000 in
set_option maxRecDepth 100000 in
theorem w_X9_findPlan_L132 {x : Cx} (hf : fx x (rm_X9_findPlan) RX9 cX9_findPlan wsX9_findPlan) (hn : xn x = 9) {k0 n0 : Nat} (hk : k0 ≤ (rm_X9_findPlan).cells ∧ n0 ≤ (rm_X9_findPlan).slots) (a0 a1 a2 a3 a4 a5 a6 a7 a8 a9 a10 a11 a12 a13 : Nat) (z3 : Int32) (z4 : Int32) (z6 : Int32) (v0 : Int32) (v1 : Int32) (v2 : Int32) (v3 : Int32) (v4 : Int32) (v6 : Nat → Int64) (v8 : Nat → Int32) (v10 : Nat → Int32) (v7 : Nat → Int32) {K191 : Int32 → Int32 → (Nat → Int32) → (Nat → Int32) → Prop}
    (n : Nat) (z5 : Int32) (z7 : Int32) (v5 : Int32) (v9 : Nat → Int32) (v11 : Nat → Int32) (h : P_X9_findPlan_L132 z3 z4 z6 v0 v1 v2 v3 v4 v6 v8 v10 K191 n z5 z7 v5 v9 v11)
    (hK191 : ∀ (y5 : Int32), ∀ (uv5 : Int32), ∀ (uv9 : Nat → Int32), ∀ (uv11 : Nat → Int32), K191 y5 uv5 uv9 uv11 → ww x (W_X9_findPlan (xg x) a0 a1 a2 a3 a4 a5 a6 a7 a8 a9 a10 a11 a12 a13 v0 v1 v2 v3 v4 uv5 v6 v7 v8 uv9 v10 uv11) [(0, .ref a0), (3, .int z3), (4, .int z4), (5, .int y5), (6, .int z6)] k0 n0 191 []) :
    ww x (W_X9_findPlan (xg x) a0 a1 a2 a3 a4 a5 a6 a7 a8 a9 a10 a11 a12 a13 v0 v1 v2 v3 v4 v5 v6 v7 v8 v9 v10 v11) [(0, .ref a0), (3, .int z3), (4, .int z4), (5, .int z5), (6, .int z6), (7, .int z7)] k0 n0 132 [] := by
  induction n generalizing z5 z7 v5 v9 v11 with
  | zero => exact h.elim
  | succ n ih =>
    unfold P_X9_findPlan_L132 at h
    refine xw_iload hf (pc := 132) dX9_findPlan_132 5 rfl ?_
    refine xw_iload hf (pc := 134) dX9_findPlan_134 2 rfl ?_
    refine xw_icmp_ge hf (pc := 136) dX9_findPlan_136 (tgt := 191) rfl ⟨fun c => ?_, fun c => ?_⟩
    · have h := h.1 c
      refine xw_L [0, 1, 2, 3, 4] rfl ?_
      exact hK191 _ _ _ _ h
    · have h := h.2 c
      refine xw_iload hf (pc := 139) dX9_findPlan_139 5 rfl ?_
      refine xw_istore hf (pc := 141) dX9_findPlan_141 [(8, .int z7), (0, .ref a0), (3, .int z3), (4, .int z4), (5, .int z5), (6, .int z6), (7, .int z7)] hn (by decide) rfl ?_
      refine xw_L [1, 2, 3, 4, 5, 6, 0] rfl ?_
      refine w_X9_findPlan_L143 hf hn ⟨hk.1, hk.2⟩ a0 a1 a2 a3 a4 a5 a6 a7 a8 a9 a10 a11 a12 a13 z3 z4 z6 z7 v0 v1 v2 v3 v4 v6 v8 v10 v7 FU _ _ _ _ _ h (fun x31 w32 w33 w34 h => ?_)
      refine xw_iinc hf (pc := 185) dX9_findPlan_185 (v := z7 + 1) 5 rfl rfl [(7, .int (z7 + 1)), (0, .ref a0), (3, .int z3), (4, .int z4), (5, .int x31), (6, .int z6)] hn (by decide) rfl ?_
      refine xw_goto hf (pc := 188) dX9_findPlan_188 (tgt := 132) rfl ?_
      refine xw_L [1, 2, 3, 4, 5, 0] rfl ?_
      exact ih _ _ _ _ _ h
set_option maxHeartbeats 4000000 in
set_option maxRecDepth 100000 in
theorem w_X9_findPlan_L116 {x : Cx} (hf : fx x (rm_X9_findPlan) RX9 cX9_findPlan wsX9_findPlan) (hn : xn x = 9) {k0 n0 : Nat} (hk : k0 ≤ (rm_X9_findPlan).cells ∧ n0 ≤ (rm_X9_findPlan).slots) (a0 a1 a2 a3 a4 a5 a6 a7 a8 a9 a10 a11 a12 a13 : Nat) (z3 : Int32) (z4 : Int32) (v0 : Int32) (v1 : Int32) (v2 : Int32) (v3 : Int32) (v4 : Int32) (v6 : Nat → Int64) (v8 : Nat → Int32) (v10 : Nat → Int32) (v7 : Nat → Int32) {K197 : Int32 → Int32 → (Nat → Int32) → (Nat → Int32) → Prop}
    (n : Nat) (z5 : Int32) (z6 : Int32) (v5 : Int32) (v9 : Nat → Int32) (v11 : Nat → Int32) (h : P_X9_findPlan_L116 z3 z4 v0 v1 v2 v3 v4 v6 v8 v10 K197 n z5 z6 v5 v9 v11)
    (hK197 : ∀ (y5 : Int32), ∀ (uv5 : Int32), ∀ (uv9 : Nat → Int32), ∀ (uv11 : Nat → Int32), K197 y5 uv5 uv9 uv11 → ww x (W_X9_findPlan (xg x) a0 a1 a2 a3 a4 a5 a6 a7 a8 a9 a10 a11 a12 a13 v0 v1 v2 v3 v4 uv5 v6 v7 v8 uv9 v10 uv11) [(0, .ref a0), (5, .int y5)] k0 n0 197 []) :
    ww x (W_X9_findPlan (xg x) a0 a1 a2 a3 a4 a5 a6 a7 a8 a9 a10 a11 a12 a13 v0 v1 v2 v3 v4 v5 v6 v7 v8 v9 v10 v11) [(0, .ref a0), (3, .int z3), (4, .int z4), (5, .int z5), (6, .int z6)] k0 n0 116 [] := by
  induction n generalizing z5 z6 v5 v9 v11 with
  | zero => exact h.elim
  | succ n ih =>
    unfold P_X9_findPlan_L116 at h
    refine xw_iload hf (pc := 116) dX9_findPlan_116 4 rfl ?_
    refine xw_iload hf (pc := 118) dX9_findPlan_118 2 rfl ?_
    refine xw_icmp_ge hf (pc := 120) dX9_findPlan_120 (tgt := 197) rfl ⟨fun c => ?_, fun c => ?_⟩
    · have h := h.1 c
      refine xw_L [0, 3] rfl ?_
      exact hK197 _ _ _ _ h
    · have h := h.2 c
      refine xw_iload_n hf (pc := 123) dX9_findPlan_123 rfl 1 rfl ?_
      refine xw_iconst hf (pc := 124) dX9_findPlan_124 (v := 2) (by decide) ?_
      refine xw_icmp_le hf (pc := 125) dX9_findPlan_125 (tgt := 197) rfl ⟨fun c => ?_, fun c => ?_⟩
      · have h := h.1 c
        refine xw_L [0, 3] rfl ?_
        exact hK197 _ _ _ _ h
      · have h := h.2 c
        refine xw_iload hf (pc := 128) dX9_findPlan_128 4 rfl ?_
        refine xw_istore hf (pc := 130) dX9_findPlan_130 [(7, .int z6), (0, .ref a0), (3, .int z3), (4, .int z4), (5, .int z5), (6, .int z6)] hn (by decide) rfl ?_
        refine xw_L [1, 2, 3, 4, 5, 0] rfl ?_
        refine w_X9_findPlan_L132 hf hn ⟨hk.1, hk.2⟩ a0 a1 a2 a3 a4 a5 a6 a7 a8 a9 a10 a11 a12 a13 z3 z4 z6 v0 v1 v2 v3 v4 v6 v8 v10 v7 FU _ _ _ _ _ h (fun x35 w36 w37 w38 h => ?_)
        refine xw_iinc hf (pc := 191) dX9_findPlan_191 (v := z6 + 1) 4 rfl rfl [(6, .int (z6 + 1)), (0, .ref a0), (3, .int z3), (4, .int z4), (5, .int x35)] hn (by decide) rfl ?_
        refine xw_goto hf (pc := 194) dX9_findPlan_194 (tgt := 116) rfl ?_
        refine xw_L [1, 2, 3, 4, 0] rfl ?_
        exact ih _ _ _ _ _ h
set_option maxHeartbeats 4000000 in
set_option maxRecDepth 100000 in
theorem c_X9_findPlan (l : Launch) (g : Gx) (a0 a1 a2 a3 a4 a5 a6 a7 a8 a9 a10 a11 a12 a13 : Nat) (v0 : Int32) (v1 : Int32) (v2 : Int32) (v3 : Int32) (v4 : Int32) (v5 : Int32) (v6 : Nat → Int64) (v7 : Nat → Int32) (v8 : Nat → Int32) (v9 : Nat → Int32) (v10 : Nat → Int32) (v11 : Nat → Int32) (p1 : Int64) (p3 : Int32) {post : Int32 → Int32 → Int32 → (Nat → Int32) → (Nat → Int32) → (Nat → Int32) → (Nat → Int32) → (Nat → Int32) → Prop} (h : P_X9_findPlan post p1 p3 v0 v1 v2 v3 v4 v5 v6 v7 v8 v9 v10 v11) : cm l g yX9_findPlan wsX9_findPlan (rm_X9_findPlan) [.ref a0, .long p1, .int p3] (W_X9_findPlan g a0 a1 a2 a3 a4 a5 a6 a7 a8 a9 a10 a11 a12 a13 v0 v1 v2 v3 v4 v5 v6 v7 v8 v9 v10 v11) (fun v X1 => ∃ (r : Int32) (uv4 : Int32) (uv5 : Int32) (uv7 : Nat → Int32) (uv8 : Nat → Int32) (uv9 : Nat → Int32) (uv10 : Nat → Int32) (uv11 : Nat → Int32), v = some (.int r) ∧ X1 = W_X9_findPlan g a0 a1 a2 a3 a4 a5 a6 a7 a8 a9 a10 a11 a12 a13 v0 v1 v2 v3 uv4 uv5 v6 uv7 uv8 uv9 uv10 uv11 ∧ post r uv4 uv5 uv7 uv8 uv9 uv10 uv11) := by
  refine cm_of (cc := cX9_findPlan) (nL := 9) (ret := (some .int)) (by decide +kernel) rfl (Nat.le_of_ble_eq_true rfl) ?_
  intro x hf hl hg hn hi hr
  subst hl
  subst hg
  show ww x (W_X9_findPlan (xg x) a0 a1 a2 a3 a4 a5 a6 a7 a8 a9 a10 a11 a12 a13 v0 v1 v2 v3 v4 v5 v6 v7 v8 v9 v10 v11) [(0, .ref a0), (1, .long p1), (3, .int p3)] 0 0 0 []
  unfold P_X9_findPlan at h
  refine xw_aload_n hf (pc := 0) dX9_findPlan_0 rfl 0 rfl ?_
  refine xw_lload_n hf (pc := 1) dX9_findPlan_1 rfl 1 rfl ?_
  refine xw_callV hf (pc := 2) (nA := 1) (Xr := [(a1, .inl (gJ (xg x), 60, .inr (.inl v6))), (a4, .inl (gI (xg x), 27, .inl v9)), (a5, .inl (gI (xg x), 60, .inl v10)), (a6, .inl (gI (xg x), 3, .inl v11))]) (rest := []) (T := TX9) (c_X9_spell (xl x) (xg x) a0 a2 a3 a1 a7 a8 a9 a10 a11 a12 a13 a4 a5 a6 v0 v1 v2 v3 v4 v5 v7 v8 p1 h) gX9_findPlan_X9_spell (by rfl) rfl rfl (by decide +kernel) ⟨⟨(Nat.le_of_ble_eq_true rfl), (Nat.le_of_ble_eq_true rfl)⟩, (Nat.le_of_ble_eq_true rfl), (Nat.le_of_ble_eq_true rfl)⟩ (Nat.le_of_ble_eq_true rfl) rfl rfl (sb_of [0, 2, 3, 1, 4, 5, 6] rfl rfl) rfl dX9_findPlan_2 (fun v X1 hp => ?_)
  obtain ⟨w2, w3, w4, rfl, rfl, h⟩ := hp
  refine xw_X (sb_of [0, 3, 1, 2, 4, 5, 6] rfl rfl) (show ww x (W_X9_findPlan (xg x) a0 a1 a2 a3 a4 a5 a6 a7 a8 a9 a10 a11 a12 a13 v0 v1 v2 v3 w2 v5 v6 w3 w4 v9 v10 v11) [(0, .ref a0), (1, .long p1), (3, .int p3)] 0 0 5 [] from ?_)
  refine xw_aload_n hf (pc := 5) dX9_findPlan_5 rfl 0 rfl ?_
  refine xw_callV hf (pc := 6) (nA := 0) (Xr := [(a2, .inl (gI (xg x), 12, .inl w3)), (a4, .inl (gI (xg x), 27, .inl v9)), (a6, .inl (gI (xg x), 3, .inl v11))]) (rest := []) (T := TX9) (c_X9_findOrder (xl x) (xg x) a0 a1 a3 a5 a7 a8 a9 a10 a11 a12 a13 a2 a4 a6 v0 v1 v2 v3 w2 v5 v6 w4 v10 h) gX9_findPlan_X9_findOrder (by rfl) rfl rfl (by decide +kernel) ⟨⟨(Nat.le_of_ble_eq_true rfl), (Nat.le_of_ble_eq_true rfl)⟩, (Nat.le_of_ble_eq_true rfl), (Nat.le_of_ble_eq_true rfl)⟩ (Nat.le_of_ble_eq_true rfl) rfl rfl (sb_of [0, 1, 3, 5, 2, 4, 6] rfl rfl) rfl dX9_findPlan_6 (fun v X1 hp => ?_)
  obtain ⟨r5, w6, rfl, rfl, h⟩ := hp
  refine xw_X (sb_of [0, 1, 4, 2, 5, 3, 6] rfl rfl) (show ww x (W_X9_findPlan (xg x) a0 a1 a2 a3 a4 a5 a6 a7 a8 a9 a10 a11 a12 a13 v0 v1 v2 v3 w2 v5 v6 w3 w4 v9 w6 v11) [(0, .ref a0), (1, .long p1), (3, .int p3)] 0 0 9 [.int r5] from ?_)
  refine xw_istore hf (pc := 9) dX9_findPlan_9 [(4, .int r5), (0, .ref a0), (1, .long p1), (3, .int p3)] hn (by decide) rfl ?_
  refine xw_aload_n hf (pc := 11) dX9_findPlan_11 rfl 1 rfl ?_
  refine xw_iconst hf (pc := 12) dX9_findPlan_12 (v := 0) (by decide) ?_
  refine xw_put hf (pc := 13) dX9_findPlan_13 (T := TX9) mi_X9_findPlan_X9 rfl tyX9_ok nmX9 0 rfl 18 (by decide) rfl mw_X9_findPlan_0 rfl rfl rfl rfl (Nat.le_of_ble_eq_true rfl) (W_X9_findPlan (xg x) a0 a1 a2 a3 a4 a5 a6 a7 a8 a9 a10 a11 a12 a13 v0 v1 v2 v3 w2 0 v6 w3 w4 v9 w6 v11) rfl ?_
  refine xw_iconst hf (pc := 16) dX9_findPlan_16 (v := 0) (by decide) ?_
  refine xw_istore hf (pc := 17) dX9_findPlan_17 [(5, .int 0), (4, .int r5), (0, .ref a0), (1, .long p1), (3, .int p3)] hn (by decide) rfl ?_
  refine xw_iconst hf (pc := 19) dX9_findPlan_19 (v := 0) (by decide) ?_
  refine xw_istore hf (pc := 20) dX9_findPlan_20 [(6, .int 0), (5, .int 0), (4, .int r5), (0, .ref a0), (1, .long p1), (3, .int p3)] hn (by decide) rfl ?_
  refine xw_L [3, 5, 2, 1, 0] rfl ?_
  refine w_X9_findPlan_L22 hf hn ⟨(Nat.le_of_ble_eq_true rfl), (Nat.le_of_ble_eq_true rfl)⟩ a0 a1 a2 a3 a4 a5 a6 a7 a8 a9 a10 a11 a12 a13 p3 r5 v0 v1 v2 v3 w2 v6 w4 w6 w3 FU _ _ _ _ _ h (fun x11 w12 w13 w14 h => ?_)
  refine xw_iconst hf (pc := 52) dX9_findPlan_52 (v := 0) (by decide) ?_
  refine xw_istore hf (pc := 53) dX9_findPlan_53 [(6, .int 0), (0, .ref a0), (3, .int p3), (4, .int r5), (5, .int x11)] hn (by decide) rfl ?_
  refine xw_L [1, 2, 3, 4, 0] rfl ?_
  refine w_X9_findPlan_L55 hf hn ⟨(Nat.le_of_ble_eq_true rfl), (Nat.le_of_ble_eq_true rfl)⟩ a0 a1 a2 a3 a4 a5 a6 a7 a8 a9 a10 a11 a12 a13 p3 r5 v0 v1 v2 v3 w2 v6 w4 w6 w3 FU _ _ _ _ _ h (fun x23 w24 w25 w26 h => ?_)
  refine xw_iconst hf (pc := 113) dX9_findPlan_113 (v := 0) (by decide) ?_
  refine xw_istore hf (pc := 114) dX9_findPlan_114 [(6, .int 0), (0, .ref a0), (3, .int p3), (4, .int r5), (5, .int x23)] hn (by decide) rfl ?_
  refine xw_L [1, 2, 3, 4, 0] rfl ?_
  refine w_X9_findPlan_L116 hf hn ⟨(Nat.le_of_ble_eq_true rfl), (Nat.le_of_ble_eq_true rfl)⟩ a0 a1 a2 a3 a4 a5 a6 a7 a8 a9 a10 a11 a12 a13 p3 r5 v0 v1 v2 v3 w2 v6 w4 w6 w3 FU _ _ _ _ _ h (fun x39 w40 w41 w42 h => ?_)
  refine xw_aload_n hf (pc := 197) dX9_findPlan_197 rfl 0 rfl ?_
  refine xw_get hf (pc := 198) dX9_findPlan_198 (T := TX9) mi_X9_findPlan_X9 rfl 0 rfl 13 (by decide) rfl mw_X9_findPlan_2 rfl ?_
  refine xw_iload hf (pc := 201) dX9_findPlan_201 1 rfl ?_
  refine xw_isub hf (pc := 203) dX9_findPlan_203 ?_
  exact xw_iret hf (pc := 204) dX9_findPlan_204 hr (Nat.le_of_ble_eq_true rfl) (Nat.le_of_ble_eq_true rfl) ⟨_, _, _, _, _, _, _, _, rfl, rfl, h⟩
abbrev W_X9_isOrder (g : Gx) (a0 a1 a2 a3 a4 a5 a6 a7 a8 a9 a10 a11 a12 a13 : Nat) (v0 : Int32) (v1 : Int32) (v2 : Int32) (v3 : Int32) (v4 : Int32) (v5 : Int32) : va_W := [(a0, .inr (9, [.int v0, .ref a1, .int v1, .ref a2, .ref a3, .ref a4, .ref a5, .ref a6, .ref a7, .ref a8, .int v2, .int v3, .ref a9, .int v4, .ref a10, .ref a11, .ref a12, .ref a13, .int v5]))]
abbrev rm_X9_isOrder : Room := { frames := 2, cells := 0, slots := 0, locals := 48 }
set_option maxHeartbeats 4000000 in
set_option maxRecDepth 100000 in
theorem c_X9_isOrder (l : Launch) (g : Gx) (a0 a1 a2 a3 a4 a5 a6 a7 a8 a9 a10 a11 a12 a13 : Nat) (v0 : Int32) (v1 : Int32) (v2 : Int32) (v3 : Int32) (v4 : Int32) (v5 : Int32) (p1 : Int64) (p3 : Int32) {post : Int32 → Int32 → Prop} (h : P_X9_isOrder post p1 p3 v0 v1 v2 v3 v4 v5) : cm l g yX9_isOrder wsX9_isOrder (rm_X9_isOrder) [.ref a0, .long p1, .int p3] (W_X9_isOrder g a0 a1 a2 a3 a4 a5 a6 a7 a8 a9 a10 a11 a12 a13 v0 v1 v2 v3 v4 v5) (fun v X1 => ∃ (r : Int32) (uv0 : Int32), v = some (.int r) ∧ X1 = W_X9_isOrder g a0 a1 a2 a3 a4 a5 a6 a7 a8 a9 a10 a11 a12 a13 uv0 v1 v2 v3 v4 v5 ∧ post r uv0) := by
  refine cm_of (cc := cX9_isOrder) (nL := 4) (ret := (some .boolean)) (by decide +kernel) rfl (Nat.le_of_ble_eq_true rfl) ?_
  intro x hf hl hg hn hi hr
  subst hl
  subst hg
  show ww x (W_X9_isOrder (xg x) a0 a1 a2 a3 a4 a5 a6 a7 a8 a9 a10 a11 a12 a13 v0 v1 v2 v3 v4 v5) [(0, .ref a0), (1, .long p1), (3, .int p3)] 0 0 0 []
  unfold P_X9_isOrder at h
  refine xw_aload_n hf (pc := 0) dX9_isOrder_0 rfl 0 rfl ?_
  refine xw_lload_n hf (pc := 1) dX9_isOrder_1 rfl 1 rfl ?_
  refine xw_callS hf (pc := 2) (nA := 1) (Xr := W_X9_isOrder (xg x) a0 a1 a2 a3 a4 a5 a6 a7 a8 a9 a10 a11 a12 a13 v0 v1 v2 v3 v4 v5) (rest := [.ref a0]) (c_X9_isWord (xl x) (xg x) p1 h) gX9_isOrder_X9_isWord (by rfl) rfl (by decide +kernel) ⟨⟨(Nat.le_of_ble_eq_true rfl), (Nat.le_of_ble_eq_true rfl)⟩, (Nat.le_of_ble_eq_true rfl), (Nat.le_of_ble_eq_true rfl)⟩ (Nat.le_of_ble_eq_true rfl) (sb_rf _) rfl dX9_isOrder_2 (fun v X1 hp => ?_)
  obtain ⟨r1, rfl, rfl, h⟩ := hp
  show ww x (W_X9_isOrder (xg x) a0 a1 a2 a3 a4 a5 a6 a7 a8 a9 a10 a11 a12 a13 v0 v1 v2 v3 v4 v5) [(0, .ref a0), (1, .long p1), (3, .int p3)] 0 0 5 [.int r1, .ref a0]
  refine xw_if_eq hf (pc := 5) dX9_isOrder_5 (c := r1 = 0) Iff.rfl (tgt := 21) rfl ⟨fun c => ?_, fun c => ?_⟩
  · have h := h.1 c
    refine xw_iconst hf (pc := 21) dX9_isOrder_21 (v := 0) (by decide) ?_
    refine xw_callV hf (pc := 22) (nA := 1) (Xr := []) (rest := []) (T := TX9) (c_X9_isGood (xl x) (xg x) a0 a1 a2 a3 a4 a5 a6 a7 a8 a9 a10 a11 a12 a13 v0 v1 v2 v3 v4 v5 0 h) gX9_isOrder_X9_isGood (by rfl) rfl rfl (by decide +kernel) ⟨⟨(Nat.le_of_ble_eq_true rfl), (Nat.le_of_ble_eq_true rfl)⟩, (Nat.le_of_ble_eq_true rfl), (Nat.le_of_ble_eq_true rfl)⟩ (Nat.le_of_ble_eq_true rfl) rfl rfl (sb_of [0] rfl rfl) rfl dX9_isOrder_22 (fun v X1 hp => ?_)
    obtain ⟨r2, w3, rfl, rfl, h⟩ := hp
    refine xw_X (sb_of [0] rfl rfl) (show ww x (W_X9_isOrder (xg x) a0 a1 a2 a3 a4 a5 a6 a7 a8 a9 a10 a11 a12 a13 w3 v1 v2 v3 v4 v5) [(0, .ref a0), (1, .long p1), (3, .int p3)] 0 0 25 [.int r2] from ?_)
    exact xw_zret hf (pc := 25) dX9_isOrder_25 hr (Nat.le_of_ble_eq_true rfl) (Nat.le_of_ble_eq_true rfl) h.1 ⟨_, _, rfl, rfl, h.2⟩
  · have h := h.2 c
    refine xw_iload_n hf (pc := 8) dX9_isOrder_8 rfl 2 rfl ?_
    refine xw_iconst hf (pc := 9) dX9_isOrder_9 (v := 1) (by decide) ?_
    refine xw_iconst hf (pc := 10) dX9_isOrder_10 (v := 3) (by decide) ?_
    refine xw_callS hf (pc := 11) (nA := 3) (Xr := W_X9_isOrder (xg x) a0 a1 a2 a3 a4 a5 a6 a7 a8 a9 a10 a11 a12 a13 v0 v1 v2 v3 v4 v5) (rest := [.ref a0]) (c_X9_isWithin (xl x) (xg x) p3 1 3 h) gX9_isOrder_X9_isWithin (by rfl) rfl (by decide +kernel) ⟨⟨(Nat.le_of_ble_eq_true rfl), (Nat.le_of_ble_eq_true rfl)⟩, (Nat.le_of_ble_eq_true rfl), (Nat.le_of_ble_eq_true rfl)⟩ (Nat.le_of_ble_eq_true rfl) (sb_rf _) rfl dX9_isOrder_11 (fun v X1 hp => ?_)
    obtain ⟨r4, rfl, rfl, h⟩ := hp
    show ww x (W_X9_isOrder (xg x) a0 a1 a2 a3 a4 a5 a6 a7 a8 a9 a10 a11 a12 a13 v0 v1 v2 v3 v4 v5) [(0, .ref a0), (1, .long p1), (3, .int p3)] 0 0 14 [.int r4, .ref a0]
    refine xw_if_eq hf (pc := 14) dX9_isOrder_14 (c := r4 = 0) Iff.rfl (tgt := 21) rfl ⟨fun c => ?_, fun c => ?_⟩
    · have h := h.1 c
      refine xw_iconst hf (pc := 21) dX9_isOrder_21 (v := 0) (by decide) ?_
      refine xw_callV hf (pc := 22) (nA := 1) (Xr := []) (rest := []) (T := TX9) (c_X9_isGood (xl x) (xg x) a0 a1 a2 a3 a4 a5 a6 a7 a8 a9 a10 a11 a12 a13 v0 v1 v2 v3 v4 v5 0 h) gX9_isOrder_X9_isGood (by rfl) rfl rfl (by decide +kernel) ⟨⟨(Nat.le_of_ble_eq_true rfl), (Nat.le_of_ble_eq_true rfl)⟩, (Nat.le_of_ble_eq_true rfl), (Nat.le_of_ble_eq_true rfl)⟩ (Nat.le_of_ble_eq_true rfl) rfl rfl (sb_of [0] rfl rfl) rfl dX9_isOrder_22 (fun v X1 hp => ?_)
      obtain ⟨r5, w6, rfl, rfl, h⟩ := hp
      refine xw_X (sb_of [0] rfl rfl) (show ww x (W_X9_isOrder (xg x) a0 a1 a2 a3 a4 a5 a6 a7 a8 a9 a10 a11 a12 a13 w6 v1 v2 v3 v4 v5) [(0, .ref a0), (1, .long p1), (3, .int p3)] 0 0 25 [.int r5] from ?_)
      exact xw_zret hf (pc := 25) dX9_isOrder_25 hr (Nat.le_of_ble_eq_true rfl) (Nat.le_of_ble_eq_true rfl) h.1 ⟨_, _, rfl, rfl, h.2⟩
    · have h := h.2 c
      refine xw_iconst hf (pc := 17) dX9_isOrder_17 (v := 1) (by decide) ?_
      refine xw_goto hf (pc := 18) dX9_isOrder_18 (tgt := 22) rfl ?_
      refine xw_callV hf (pc := 22) (nA := 1) (Xr := []) (rest := []) (T := TX9) (c_X9_isGood (xl x) (xg x) a0 a1 a2 a3 a4 a5 a6 a7 a8 a9 a10 a11 a12 a13 v0 v1 v2 v3 v4 v5 1 h) gX9_isOrder_X9_isGood (by rfl) rfl rfl (by decide +kernel) ⟨⟨(Nat.le_of_ble_eq_true rfl), (Nat.le_of_ble_eq_true rfl)⟩, (Nat.le_of_ble_eq_true rfl), (Nat.le_of_ble_eq_true rfl)⟩ (Nat.le_of_ble_eq_true rfl) rfl rfl (sb_of [0] rfl rfl) rfl dX9_isOrder_22 (fun v X1 hp => ?_)
      obtain ⟨r7, w8, rfl, rfl, h⟩ := hp
      refine xw_X (sb_of [0] rfl rfl) (show ww x (W_X9_isOrder (xg x) a0 a1 a2 a3 a4 a5 a6 a7 a8 a9 a10 a11 a12 a13 w8 v1 v2 v3 v4 v5) [(0, .ref a0), (1, .long p1), (3, .int p3)] 0 0 25 [.int r7] from ?_)
      exact xw_zret hf (pc := 25) dX9_isOrder_25 hr (Nat.le_of_ble_eq_true rfl) (Nat.le_of_ble_eq_true rfl) h.1 ⟨_, _, rfl, rfl, h.2⟩
abbrev W_X9_planLength (g : Gx) (a0 a1 a2 a3 a4 a5 a6 a7 a8 a9 a10 a11 a12 a13 : Nat) (v0 : Int32) (v1 : Int32) (v2 : Int32) (v3 : Int32) (v4 : Int32) (v5 : Int32) (v6 : Nat → Int64) (v7 : Nat → Int32) (v8 : Nat → Int32) (v9 : Nat → Int32) (v10 : Nat → Int32) (v11 : Nat → Int32) : va_W := [(a0, .inr (9, [.int v0, .ref a1, .int v1, .ref a7, .ref a8, .ref a9, .ref a10, .ref a11, .ref a12, .ref a13, .int v2, .int v3, .ref a2, .int v4, .ref a3, .ref a4, .ref a5, .ref a6, .int v5])), (a1, .inl (gJ g, 60, .inr (.inl v6))), (a2, .inl (gI g, 12, .inl v7)), (a3, .inl (gI g, 27, .inl v8)), (a4, .inl (gI g, 27, .inl v9)), (a5, .inl (gI g, 60, .inl v10)), (a6, .inl (gI g, 3, .inl v11))]
abbrev rm_X9_planLength : Room := { frames := 4, cells := 0, slots := 0, locals := 102 }
theorem mw_X9_planLength_0 : (Cond.fieldLink RX9 190 "AnagramButcherModel" "planned" "I" : Cond) ∈ wsX9_planLength := (List.mem_cons_of_mem _ (List.mem_append_left _ (List.mem_append_left _ (List.mem_of_getElem? (l := wsX9_planLength_r1) (i := 0) rfl))))
theorem mi_X9_planLength_X9 : ∀ w ∈ wsX90, w ∈ wsX9_planLength := fun _ h => (List.mem_cons_of_mem _ (List.mem_append_right _ h))
set_option maxHeartbeats 4000000 in
set_option maxRecDepth 100000 in
theorem c_X9_planLength (l : Launch) (g : Gx) (a0 a1 a2 a3 a4 a5 a6 a7 a8 a9 a10 a11 a12 a13 : Nat) (v0 : Int32) (v1 : Int32) (v2 : Int32) (v3 : Int32) (v4 : Int32) (v5 : Int32) (v6 : Nat → Int64) (v7 : Nat → Int32) (v8 : Nat → Int32) (v9 : Nat → Int32) (v10 : Nat → Int32) (v11 : Nat → Int32) (p1 : Int64) (p3 : Int32) {post : Int32 → Int32 → Int32 → Int32 → (Nat → Int32) → (Nat → Int32) → (Nat → Int32) → (Nat → Int32) → (Nat → Int32) → Prop} (h : P_X9_planLength post p1 p3 v0 v1 v2 v3 v4 v5 v6 v7 v8 v9 v10 v11) : cm l g yX9_planLength wsX9_planLength (rm_X9_planLength) [.ref a0, .long p1, .int p3] (W_X9_planLength g a0 a1 a2 a3 a4 a5 a6 a7 a8 a9 a10 a11 a12 a13 v0 v1 v2 v3 v4 v5 v6 v7 v8 v9 v10 v11) (fun v X1 => ∃ (r : Int32) (uv0 : Int32) (uv4 : Int32) (uv5 : Int32) (uv7 : Nat → Int32) (uv8 : Nat → Int32) (uv9 : Nat → Int32) (uv10 : Nat → Int32) (uv11 : Nat → Int32), v = some (.int r) ∧ X1 = W_X9_planLength g a0 a1 a2 a3 a4 a5 a6 a7 a8 a9 a10 a11 a12 a13 uv0 v1 v2 v3 uv4 uv5 v6 uv7 uv8 uv9 uv10 uv11 ∧ post r uv0 uv4 uv5 uv7 uv8 uv9 uv10 uv11) := by
  refine cm_of (cc := cX9_planLength) (nL := 4) (ret := (some .int)) (by decide +kernel) rfl (Nat.le_of_ble_eq_true rfl) ?_
  intro x hf hl hg hn hi hr
  subst hl
  subst hg
  show ww x (W_X9_planLength (xg x) a0 a1 a2 a3 a4 a5 a6 a7 a8 a9 a10 a11 a12 a13 v0 v1 v2 v3 v4 v5 v6 v7 v8 v9 v10 v11) [(0, .ref a0), (1, .long p1), (3, .int p3)] 0 0 0 []
  unfold P_X9_planLength at h
  refine xw_aload_n hf (pc := 0) dX9_planLength_0 rfl 0 rfl ?_
  refine xw_lload_n hf (pc := 1) dX9_planLength_1 rfl 1 rfl ?_
  refine xw_iload_n hf (pc := 2) dX9_planLength_2 rfl 2 rfl ?_
  refine xw_callV hf (pc := 3) (nA := 2) (Xr := [(a1, .inl (gJ (xg x), 60, .inr (.inl v6))), (a2, .inl (gI (xg x), 12, .inl v7)), (a3, .inl (gI (xg x), 27, .inl v8)), (a4, .inl (gI (xg x), 27, .inl v9)), (a5, .inl (gI (xg x), 60, .inl v10)), (a6, .inl (gI (xg x), 3, .inl v11))]) (rest := []) (T := TX9) (c_X9_isOrder (xl x) (xg x) a0 a1 a7 a8 a9 a10 a11 a12 a13 a2 a3 a4 a5 a6 v0 v1 v2 v3 v4 v5 p1 p3 h) gX9_planLength_X9_isOrder (by rfl) rfl rfl (by decide +kernel) ⟨⟨(Nat.le_of_ble_eq_true rfl), (Nat.le_of_ble_eq_true rfl)⟩, (Nat.le_of_ble_eq_true rfl), (Nat.le_of_ble_eq_true rfl)⟩ (Nat.le_of_ble_eq_true rfl) rfl rfl (sb_of [0, 1, 2, 3, 4, 5, 6] rfl rfl) rfl dX9_planLength_3 (fun v X1 hp => ?_)
  obtain ⟨r1, w2, rfl, rfl, h⟩ := hp
  refine xw_X (sb_of [0, 1, 2, 3, 4, 5, 6] rfl rfl) (show ww x (W_X9_planLength (xg x) a0 a1 a2 a3 a4 a5 a6 a7 a8 a9 a10 a11 a12 a13 w2 v1 v2 v3 v4 v5 v6 v7 v8 v9 v10 v11) [(0, .ref a0), (1, .long p1), (3, .int p3)] 0 0 6 [.int r1] from ?_)
  refine xw_if_ne hf (pc := 6) dX9_planLength_6 (c := r1 = 0) Iff.rfl (tgt := 11) rfl ⟨fun c => ?_, fun c => ?_⟩
  · have h := h.1 c
    refine xw_iconst hf (pc := 9) dX9_planLength_9 (v := 0) (by decide) ?_
    exact xw_iret hf (pc := 10) dX9_planLength_10 hr (Nat.le_of_ble_eq_true rfl) (Nat.le_of_ble_eq_true rfl) ⟨_, _, _, _, _, _, _, _, _, rfl, rfl, h⟩
  · have h := h.2 c
    refine xw_aload_n hf (pc := 11) dX9_planLength_11 rfl 0 rfl ?_
    refine xw_lload_n hf (pc := 12) dX9_planLength_12 rfl 1 rfl ?_
    refine xw_iload_n hf (pc := 13) dX9_planLength_13 rfl 2 rfl ?_
    refine xw_callV hf (pc := 14) (nA := 2) (Xr := []) (rest := []) (T := TX9) (c_X9_findPlan (xl x) (xg x) a0 a1 a2 a3 a4 a5 a6 a7 a8 a9 a10 a11 a12 a13 w2 v1 v2 v3 v4 v5 v6 v7 v8 v9 v10 v11 p1 p3 h) gX9_planLength_X9_findPlan (by rfl) rfl rfl (by decide +kernel) ⟨⟨(Nat.le_of_ble_eq_true rfl), (Nat.le_of_ble_eq_true rfl)⟩, (Nat.le_of_ble_eq_true rfl), (Nat.le_of_ble_eq_true rfl)⟩ (Nat.le_of_ble_eq_true rfl) rfl rfl (sb_of [0, 1, 2, 3, 4, 5, 6] rfl rfl) rfl dX9_planLength_14 (fun v X1 hp => ?_)
    obtain ⟨r3, w4, w5, w6, w7, w8, w9, w10, rfl, rfl, h⟩ := hp
    refine xw_X (sb_of [0, 1, 2, 3, 4, 5, 6] rfl rfl) (show ww x (W_X9_planLength (xg x) a0 a1 a2 a3 a4 a5 a6 a7 a8 a9 a10 a11 a12 a13 w2 v1 v2 v3 w4 w5 v6 w6 w7 w8 w9 w10) [(0, .ref a0), (1, .long p1), (3, .int p3)] 0 0 17 [.int r3] from ?_)
    refine xw_pop hf (pc := 17) dX9_planLength_17 rfl ?_
    refine xw_aload_n hf (pc := 18) dX9_planLength_18 rfl 0 rfl ?_
    refine xw_get hf (pc := 19) dX9_planLength_19 (T := TX9) mi_X9_planLength_X9 rfl 0 rfl 18 (by decide) rfl mw_X9_planLength_0 rfl ?_
    exact xw_iret hf (pc := 22) dX9_planLength_22 hr (Nat.le_of_ble_eq_true rfl) (Nat.le_of_ble_eq_true rfl) ⟨_, _, _, _, _, _, _, _, _, rfl, rfl, h⟩
abbrev W_X9_planWord (g : Gx) (a0 a1 a2 a3 a4 a5 a6 a7 a8 a9 a10 a11 a12 a13 : Nat) (v0 : Int32) (v1 : Int32) (v2 : Int32) (v3 : Int32) (v4 : Int32) (v5 : Int32) (v6 : Nat → Int64) (v7 : Nat → Int32) (v8 : Nat → Int32) (v9 : Nat → Int32) (v10 : Nat → Int32) (v11 : Nat → Int32) : va_W := [(a0, .inr (9, [.int v0, .ref a1, .int v1, .ref a7, .ref a8, .ref a9, .ref a10, .ref a11, .ref a12, .ref a13, .int v2, .int v3, .ref a2, .int v4, .ref a3, .ref a4, .ref a5, .ref a6, .int v5])), (a1, .inl (gJ g, 60, .inr (.inl v6))), (a2, .inl (gI g, 12, .inl v7)), (a3, .inl (gI g, 27, .inl v8)), (a4, .inl (gI g, 27, .inl v9)), (a5, .inl (gI g, 60, .inl v10)), (a6, .inl (gI g, 3, .inl v11))]
abbrev rm_X9_planWord : Room := { frames := 4, cells := 0, slots := 0, locals := 102 }
theorem mw_X9_planWord_0 : (Cond.fieldLink RX9 190 "AnagramButcherModel" "planned" "I" : Cond) ∈ wsX9_planWord := (List.mem_cons_of_mem _ (List.mem_append_left _ (List.mem_append_left _ (List.mem_of_getElem? (l := wsX9_planWord_r1) (i := 0) rfl))))
theorem mw_X9_planWord_1 : (Cond.fieldLink RX9 7 "AnagramButcherModel" "words" "[J" : Cond) ∈ wsX9_planWord := (List.mem_cons_of_mem _ (List.mem_append_left _ (List.mem_append_left _ (List.mem_of_getElem? (l := wsX9_planWord_r1) (i := 1) rfl))))
theorem mw_X9_planWord_2 : (Cond.fieldLink RX9 48 "AnagramButcherModel" "plan" "[I" : Cond) ∈ wsX9_planWord := (List.mem_cons_of_mem _ (List.mem_append_left _ (List.mem_append_left _ (List.mem_of_getElem? (l := wsX9_planWord_r1) (i := 2) rfl))))
theorem mi_X9_planWord_X9 : ∀ w ∈ wsX90, w ∈ wsX9_planWord := fun _ h => (List.mem_cons_of_mem _ (List.mem_append_right _ h))
set_option maxHeartbeats 4000000 in
set_option maxRecDepth 100000 in
theorem c_X9_planWord (l : Launch) (g : Gx) (a0 a1 a2 a3 a4 a5 a6 a7 a8 a9 a10 a11 a12 a13 : Nat) (v0 : Int32) (v1 : Int32) (v2 : Int32) (v3 : Int32) (v4 : Int32) (v5 : Int32) (v6 : Nat → Int64) (v7 : Nat → Int32) (v8 : Nat → Int32) (v9 : Nat → Int32) (v10 : Nat → Int32) (v11 : Nat → Int32) (p1 : Int64) (p3 : Int32) (p4 : Int32) {post : Int64 → Int32 → Int32 → Int32 → (Nat → Int32) → (Nat → Int32) → (Nat → Int32) → (Nat → Int32) → (Nat → Int32) → Prop} (h : P_X9_planWord post p1 p3 p4 v0 v1 v2 v3 v4 v5 v6 v7 v8 v9 v10 v11) : cm l g yX9_planWord wsX9_planWord (rm_X9_planWord) [.ref a0, .long p1, .int p3, .int p4] (W_X9_planWord g a0 a1 a2 a3 a4 a5 a6 a7 a8 a9 a10 a11 a12 a13 v0 v1 v2 v3 v4 v5 v6 v7 v8 v9 v10 v11) (fun v X1 => ∃ (r : Int64) (uv0 : Int32) (uv4 : Int32) (uv5 : Int32) (uv7 : Nat → Int32) (uv8 : Nat → Int32) (uv9 : Nat → Int32) (uv10 : Nat → Int32) (uv11 : Nat → Int32), v = some (.long r) ∧ X1 = W_X9_planWord g a0 a1 a2 a3 a4 a5 a6 a7 a8 a9 a10 a11 a12 a13 uv0 v1 v2 v3 uv4 uv5 v6 uv7 uv8 uv9 uv10 uv11 ∧ post r uv0 uv4 uv5 uv7 uv8 uv9 uv10 uv11) := by
  refine cm_of (cc := cX9_planWord) (nL := 5) (ret := (some .long)) (by decide +kernel) rfl (Nat.le_of_ble_eq_true rfl) ?_
  intro x hf hl hg hn hi hr
  subst hl
  subst hg
  show ww x (W_X9_planWord (xg x) a0 a1 a2 a3 a4 a5 a6 a7 a8 a9 a10 a11 a12 a13 v0 v1 v2 v3 v4 v5 v6 v7 v8 v9 v10 v11) [(0, .ref a0), (1, .long p1), (3, .int p3), (4, .int p4)] 0 0 0 []
  unfold P_X9_planWord at h
  refine xw_aload_n hf (pc := 0) dX9_planWord_0 rfl 0 rfl ?_
  refine xw_lload_n hf (pc := 1) dX9_planWord_1 rfl 1 rfl ?_
  refine xw_iload_n hf (pc := 2) dX9_planWord_2 rfl 2 rfl ?_
  refine xw_callV hf (pc := 3) (nA := 2) (Xr := [(a1, .inl (gJ (xg x), 60, .inr (.inl v6))), (a2, .inl (gI (xg x), 12, .inl v7)), (a3, .inl (gI (xg x), 27, .inl v8)), (a4, .inl (gI (xg x), 27, .inl v9)), (a5, .inl (gI (xg x), 60, .inl v10)), (a6, .inl (gI (xg x), 3, .inl v11))]) (rest := []) (T := TX9) (c_X9_isOrder (xl x) (xg x) a0 a1 a7 a8 a9 a10 a11 a12 a13 a2 a3 a4 a5 a6 v0 v1 v2 v3 v4 v5 p1 p3 h) gX9_planWord_X9_isOrder (by rfl) rfl rfl (by decide +kernel) ⟨⟨(Nat.le_of_ble_eq_true rfl), (Nat.le_of_ble_eq_true rfl)⟩, (Nat.le_of_ble_eq_true rfl), (Nat.le_of_ble_eq_true rfl)⟩ (Nat.le_of_ble_eq_true rfl) rfl rfl (sb_of [0, 1, 2, 3, 4, 5, 6] rfl rfl) rfl dX9_planWord_3 (fun v X1 hp => ?_)
  obtain ⟨r1, w2, rfl, rfl, h⟩ := hp
  refine xw_X (sb_of [0, 1, 2, 3, 4, 5, 6] rfl rfl) (show ww x (W_X9_planWord (xg x) a0 a1 a2 a3 a4 a5 a6 a7 a8 a9 a10 a11 a12 a13 w2 v1 v2 v3 v4 v5 v6 v7 v8 v9 v10 v11) [(0, .ref a0), (1, .long p1), (3, .int p3), (4, .int p4)] 0 0 6 [.int r1] from ?_)
  refine xw_if_ne hf (pc := 6) dX9_planWord_6 (c := r1 = 0) Iff.rfl (tgt := 11) rfl ⟨fun c => ?_, fun c => ?_⟩
  · have h := h.1 c
    refine xw_lconst hf (pc := 9) dX9_planWord_9 (v := 0) (by decide) ?_
    exact xw_lret hf (pc := 10) dX9_planWord_10 hr (Nat.le_of_ble_eq_true rfl) (Nat.le_of_ble_eq_true rfl) ⟨_, _, _, _, _, _, _, _, _, rfl, rfl, h⟩
  · have h := h.2 c
    refine xw_aload_n hf (pc := 11) dX9_planWord_11 rfl 0 rfl ?_
    refine xw_lload_n hf (pc := 12) dX9_planWord_12 rfl 1 rfl ?_
    refine xw_iload_n hf (pc := 13) dX9_planWord_13 rfl 2 rfl ?_
    refine xw_callV hf (pc := 14) (nA := 2) (Xr := []) (rest := []) (T := TX9) (c_X9_findPlan (xl x) (xg x) a0 a1 a2 a3 a4 a5 a6 a7 a8 a9 a10 a11 a12 a13 w2 v1 v2 v3 v4 v5 v6 v7 v8 v9 v10 v11 p1 p3 h) gX9_planWord_X9_findPlan (by rfl) rfl rfl (by decide +kernel) ⟨⟨(Nat.le_of_ble_eq_true rfl), (Nat.le_of_ble_eq_true rfl)⟩, (Nat.le_of_ble_eq_true rfl), (Nat.le_of_ble_eq_true rfl)⟩ (Nat.le_of_ble_eq_true rfl) rfl rfl (sb_of [0, 1, 2, 3, 4, 5, 6] rfl rfl) rfl dX9_planWord_14 (fun v X1 hp => ?_)
    obtain ⟨r3, w4, w5, w6, w7, w8, w9, w10, rfl, rfl, h⟩ := hp
    refine xw_X (sb_of [0, 1, 2, 3, 4, 5, 6] rfl rfl) (show ww x (W_X9_planWord (xg x) a0 a1 a2 a3 a4 a5 a6 a7 a8 a9 a10 a11 a12 a13 w2 v1 v2 v3 w4 w5 v6 w6 w7 w8 w9 w10) [(0, .ref a0), (1, .long p1), (3, .int p3), (4, .int p4)] 0 0 17 [.int r3] from ?_)
    refine xw_pop hf (pc := 17) dX9_planWord_17 rfl ?_
    refine xw_iload hf (pc := 18) dX9_planWord_18 3 rfl ?_
    refine xw_iconst hf (pc := 20) dX9_planWord_20 (v := 0) (by decide) ?_
    refine xw_aload_n hf (pc := 21) dX9_planWord_21 rfl 0 rfl ?_
    refine xw_get hf (pc := 22) dX9_planWord_22 (T := TX9) mi_X9_planWord_X9 rfl 0 rfl 18 (by decide) rfl mw_X9_planWord_0 rfl ?_
    refine xw_iconst hf (pc := 25) dX9_planWord_25 (v := 1) (by decide) ?_
    refine xw_isub hf (pc := 26) dX9_planWord_26 ?_
    refine xw_callS hf (pc := 27) (nA := 3) (Xr := W_X9_planWord (xg x) a0 a1 a2 a3 a4 a5 a6 a7 a8 a9 a10 a11 a12 a13 w2 v1 v2 v3 w4 w5 v6 w6 w7 w8 w9 w10) (rest := []) (c_X9_isWithin (xl x) (xg x) p4 0 (w5 - 1) h) gX9_planWord_X9_isWithin (by rfl) rfl (by decide +kernel) ⟨⟨(Nat.le_of_ble_eq_true rfl), (Nat.le_of_ble_eq_true rfl)⟩, (Nat.le_of_ble_eq_true rfl), (Nat.le_of_ble_eq_true rfl)⟩ (Nat.le_of_ble_eq_true rfl) (sb_rf _) rfl dX9_planWord_27 (fun v X1 hp => ?_)
    obtain ⟨r11, rfl, rfl, h⟩ := hp
    show ww x (W_X9_planWord (xg x) a0 a1 a2 a3 a4 a5 a6 a7 a8 a9 a10 a11 a12 a13 w2 v1 v2 v3 w4 w5 v6 w6 w7 w8 w9 w10) [(0, .ref a0), (1, .long p1), (3, .int p3), (4, .int p4)] 0 0 30 [.int r11]
    refine xw_if_eq hf (pc := 30) dX9_planWord_30 (c := r11 = 0) Iff.rfl (tgt := 48) rfl ⟨fun c => ?_, fun c => ?_⟩
    · have h := h.1 c
      refine xw_aload_n hf (pc := 48) dX9_planWord_48 rfl 0 rfl ?_
      refine xw_iconst hf (pc := 49) dX9_planWord_49 (v := 2) (by decide) ?_
      refine xw_callV hf (pc := 50) (nA := 1) (Xr := [(a1, .inl (gJ (xg x), 60, .inr (.inl v6))), (a2, .inl (gI (xg x), 12, .inl w6)), (a3, .inl (gI (xg x), 27, .inl w7)), (a4, .inl (gI (xg x), 27, .inl w8)), (a5, .inl (gI (xg x), 60, .inl w9)), (a6, .inl (gI (xg x), 3, .inl w10))]) (rest := []) (T := TX9) (c_X9_fail (xl x) (xg x) a0 a1 a7 a8 a9 a10 a11 a12 a13 a2 a3 a4 a5 a6 w2 v1 v2 v3 w4 w5 2 h) gX9_planWord_X9_fail (by rfl) rfl rfl (by decide +kernel) ⟨⟨(Nat.le_of_ble_eq_true rfl), (Nat.le_of_ble_eq_true rfl)⟩, (Nat.le_of_ble_eq_true rfl), (Nat.le_of_ble_eq_true rfl)⟩ (Nat.le_of_ble_eq_true rfl) rfl rfl (sb_of [0, 1, 2, 3, 4, 5, 6] rfl rfl) rfl dX9_planWord_50 (fun v X1 hp => ?_)
      obtain ⟨r12, w13, rfl, rfl, h⟩ := hp
      refine xw_X (sb_of [0, 1, 2, 3, 4, 5, 6] rfl rfl) (show ww x (W_X9_planWord (xg x) a0 a1 a2 a3 a4 a5 a6 a7 a8 a9 a10 a11 a12 a13 w13 v1 v2 v3 w4 w5 v6 w6 w7 w8 w9 w10) [(0, .ref a0), (1, .long p1), (3, .int p3), (4, .int p4)] 0 0 53 [.int r12] from ?_)
      refine xw_i2l hf (pc := 53) dX9_planWord_53 ?_
      exact xw_lret hf (pc := 54) dX9_planWord_54 hr (Nat.le_of_ble_eq_true rfl) (Nat.le_of_ble_eq_true rfl) ⟨_, _, _, _, _, _, _, _, _, rfl, rfl, h⟩
    · have h := h.2 c
      refine xw_aload_n hf (pc := 33) dX9_planWord_33 rfl 0 rfl ?_
      refine xw_get hf (pc := 34) dX9_planWord_34 (T := TX9) mi_X9_planWord_X9 rfl 0 rfl 1 (by decide) rfl mw_X9_planWord_1 rfl ?_
      refine xw_aload_n hf (pc := 37) dX9_planWord_37 rfl 0 rfl ?_
      refine xw_get hf (pc := 38) dX9_planWord_38 (T := TX9) mi_X9_planWord_X9 rfl 0 rfl 17 (by decide) rfl mw_X9_planWord_2 rfl ?_
      refine xw_iload hf (pc := 41) dX9_planWord_41 3 rfl ?_
      refine xw_iald hf (pc := 43) dX9_planWord_43 6 rfl h.1 ?_
      have h := h.2
      refine xw_lald hf (pc := 44) dX9_planWord_44 1 rfl h.1 ?_
      have h := h.2
      refine xw_goto hf (pc := 45) dX9_planWord_45 (tgt := 54) rfl ?_
      exact xw_lret hf (pc := 54) dX9_planWord_54 hr (Nat.le_of_ble_eq_true rfl) (Nat.le_of_ble_eq_true rfl) ⟨_, _, _, _, _, _, _, _, _, rfl, rfl, h⟩
abbrev W_X9_leftoverCount (g : Gx) (a0 a1 a2 a3 a4 a5 a6 a7 a8 a9 a10 a11 a12 a13 : Nat) (v0 : Int32) (v1 : Int32) (v2 : Int32) (v3 : Int32) (v4 : Int32) (v5 : Int32) (v6 : Nat → Int64) (v7 : Nat → Int32) (v8 : Nat → Int32) (v9 : Nat → Int32) (v10 : Nat → Int32) (v11 : Nat → Int32) : va_W := [(a0, .inr (9, [.int v0, .ref a1, .int v1, .ref a7, .ref a8, .ref a9, .ref a10, .ref a11, .ref a12, .ref a13, .int v2, .int v3, .ref a2, .int v4, .ref a3, .ref a4, .ref a5, .ref a6, .int v5])), (a1, .inl (gJ g, 60, .inr (.inl v6))), (a2, .inl (gI g, 12, .inl v7)), (a3, .inl (gI g, 27, .inl v8)), (a4, .inl (gI g, 27, .inl v9)), (a5, .inl (gI g, 60, .inl v10)), (a6, .inl (gI g, 3, .inl v11))]
abbrev rm_X9_leftoverCount : Room := { frames := 4, cells := 0, slots := 0, locals := 102 }
set_option maxHeartbeats 4000000 in
set_option maxRecDepth 100000 in
theorem c_X9_leftoverCount (l : Launch) (g : Gx) (a0 a1 a2 a3 a4 a5 a6 a7 a8 a9 a10 a11 a12 a13 : Nat) (v0 : Int32) (v1 : Int32) (v2 : Int32) (v3 : Int32) (v4 : Int32) (v5 : Int32) (v6 : Nat → Int64) (v7 : Nat → Int32) (v8 : Nat → Int32) (v9 : Nat → Int32) (v10 : Nat → Int32) (v11 : Nat → Int32) (p1 : Int64) (p3 : Int32) {post : Int32 → Int32 → Int32 → Int32 → (Nat → Int32) → (Nat → Int32) → (Nat → Int32) → (Nat → Int32) → (Nat → Int32) → Prop} (h : P_X9_leftoverCount post p1 p3 v0 v1 v2 v3 v4 v5 v6 v7 v8 v9 v10 v11) : cm l g yX9_leftoverCount wsX9_leftoverCount (rm_X9_leftoverCount) [.ref a0, .long p1, .int p3] (W_X9_leftoverCount g a0 a1 a2 a3 a4 a5 a6 a7 a8 a9 a10 a11 a12 a13 v0 v1 v2 v3 v4 v5 v6 v7 v8 v9 v10 v11) (fun v X1 => ∃ (r : Int32) (uv0 : Int32) (uv4 : Int32) (uv5 : Int32) (uv7 : Nat → Int32) (uv8 : Nat → Int32) (uv9 : Nat → Int32) (uv10 : Nat → Int32) (uv11 : Nat → Int32), v = some (.int r) ∧ X1 = W_X9_leftoverCount g a0 a1 a2 a3 a4 a5 a6 a7 a8 a9 a10 a11 a12 a13 uv0 v1 v2 v3 uv4 uv5 v6 uv7 uv8 uv9 uv10 uv11 ∧ post r uv0 uv4 uv5 uv7 uv8 uv9 uv10 uv11) := by
  refine cm_of (cc := cX9_leftoverCount) (nL := 4) (ret := (some .int)) (by decide +kernel) rfl (Nat.le_of_ble_eq_true rfl) ?_
  intro x hf hl hg hn hi hr
  subst hl
  subst hg
  show ww x (W_X9_leftoverCount (xg x) a0 a1 a2 a3 a4 a5 a6 a7 a8 a9 a10 a11 a12 a13 v0 v1 v2 v3 v4 v5 v6 v7 v8 v9 v10 v11) [(0, .ref a0), (1, .long p1), (3, .int p3)] 0 0 0 []
  unfold P_X9_leftoverCount at h
  refine xw_aload_n hf (pc := 0) dX9_leftoverCount_0 rfl 0 rfl ?_
  refine xw_lload_n hf (pc := 1) dX9_leftoverCount_1 rfl 1 rfl ?_
  refine xw_iload_n hf (pc := 2) dX9_leftoverCount_2 rfl 2 rfl ?_
  refine xw_callV hf (pc := 3) (nA := 2) (Xr := [(a1, .inl (gJ (xg x), 60, .inr (.inl v6))), (a2, .inl (gI (xg x), 12, .inl v7)), (a3, .inl (gI (xg x), 27, .inl v8)), (a4, .inl (gI (xg x), 27, .inl v9)), (a5, .inl (gI (xg x), 60, .inl v10)), (a6, .inl (gI (xg x), 3, .inl v11))]) (rest := []) (T := TX9) (c_X9_isOrder (xl x) (xg x) a0 a1 a7 a8 a9 a10 a11 a12 a13 a2 a3 a4 a5 a6 v0 v1 v2 v3 v4 v5 p1 p3 h) gX9_leftoverCount_X9_isOrder (by rfl) rfl rfl (by decide +kernel) ⟨⟨(Nat.le_of_ble_eq_true rfl), (Nat.le_of_ble_eq_true rfl)⟩, (Nat.le_of_ble_eq_true rfl), (Nat.le_of_ble_eq_true rfl)⟩ (Nat.le_of_ble_eq_true rfl) rfl rfl (sb_of [0, 1, 2, 3, 4, 5, 6] rfl rfl) rfl dX9_leftoverCount_3 (fun v X1 hp => ?_)
  obtain ⟨r1, w2, rfl, rfl, h⟩ := hp
  refine xw_X (sb_of [0, 1, 2, 3, 4, 5, 6] rfl rfl) (show ww x (W_X9_leftoverCount (xg x) a0 a1 a2 a3 a4 a5 a6 a7 a8 a9 a10 a11 a12 a13 w2 v1 v2 v3 v4 v5 v6 v7 v8 v9 v10 v11) [(0, .ref a0), (1, .long p1), (3, .int p3)] 0 0 6 [.int r1] from ?_)
  refine xw_if_eq hf (pc := 6) dX9_leftoverCount_6 (c := r1 = 0) Iff.rfl (tgt := 18) rfl ⟨fun c => ?_, fun c => ?_⟩
  · have h := h.1 c
    refine xw_iconst hf (pc := 18) dX9_leftoverCount_18 (v := 0) (by decide) ?_
    exact xw_iret hf (pc := 19) dX9_leftoverCount_19 hr (Nat.le_of_ble_eq_true rfl) (Nat.le_of_ble_eq_true rfl) ⟨_, _, _, _, _, _, _, _, _, rfl, rfl, h⟩
  · have h := h.2 c
    refine xw_aload_n hf (pc := 9) dX9_leftoverCount_9 rfl 0 rfl ?_
    refine xw_lload_n hf (pc := 10) dX9_leftoverCount_10 rfl 1 rfl ?_
    refine xw_iload_n hf (pc := 11) dX9_leftoverCount_11 rfl 2 rfl ?_
    refine xw_callV hf (pc := 12) (nA := 2) (Xr := []) (rest := []) (T := TX9) (c_X9_findPlan (xl x) (xg x) a0 a1 a2 a3 a4 a5 a6 a7 a8 a9 a10 a11 a12 a13 w2 v1 v2 v3 v4 v5 v6 v7 v8 v9 v10 v11 p1 p3 h) gX9_leftoverCount_X9_findPlan (by rfl) rfl rfl (by decide +kernel) ⟨⟨(Nat.le_of_ble_eq_true rfl), (Nat.le_of_ble_eq_true rfl)⟩, (Nat.le_of_ble_eq_true rfl), (Nat.le_of_ble_eq_true rfl)⟩ (Nat.le_of_ble_eq_true rfl) rfl rfl (sb_of [0, 1, 2, 3, 4, 5, 6] rfl rfl) rfl dX9_leftoverCount_12 (fun v X1 hp => ?_)
    obtain ⟨r3, w4, w5, w6, w7, w8, w9, w10, rfl, rfl, h⟩ := hp
    refine xw_X (sb_of [0, 1, 2, 3, 4, 5, 6] rfl rfl) (show ww x (W_X9_leftoverCount (xg x) a0 a1 a2 a3 a4 a5 a6 a7 a8 a9 a10 a11 a12 a13 w2 v1 v2 v3 w4 w5 v6 w6 w7 w8 w9 w10) [(0, .ref a0), (1, .long p1), (3, .int p3)] 0 0 15 [.int r3] from ?_)
    refine xw_goto hf (pc := 15) dX9_leftoverCount_15 (tgt := 19) rfl ?_
    exact xw_iret hf (pc := 19) dX9_leftoverCount_19 hr (Nat.le_of_ble_eq_true rfl) (Nat.le_of_ble_eq_true rfl) ⟨_, _, _, _, _, _, _, _, _, rfl, rfl, h⟩
abbrev W_X9_leftOf (g : Gx) (a0 a1 a2 a3 a4 a5 a6 a7 a8 a9 a10 a11 a12 a13 : Nat) (v0 : Int32) (v1 : Int32) (v2 : Int32) (v3 : Int32) (v4 : Int32) (v5 : Int32) (v6 : Nat → Int64) (v7 : Nat → Int32) (v8 : Nat → Int32) : va_W := [(a0, .inr (9, [.int v0, .ref a1, .int v1, .ref a4, .ref a5, .ref a6, .ref a7, .ref a8, .ref a9, .ref a10, .int v2, .int v3, .ref a11, .int v4, .ref a2, .ref a12, .ref a13, .ref a3, .int v5])), (a1, .inl (gJ g, 60, .inr (.inl v6))), (a2, .inl (gI g, 27, .inl v7)), (a3, .inl (gI g, 3, .inl v8))]
abbrev rm_X9_leftOf : Room := { frames := 1, cells := 0, slots := 0, locals := 25 }
theorem mw_X9_leftOf_0 : (Cond.fieldLink RX9 39 "AnagramButcherModel" "counts" "[I" : Cond) ∈ wsX9_leftOf := (List.mem_cons_of_mem _ (List.mem_append_left _ (List.mem_of_getElem? (i := 0) rfl)))
theorem mw_X9_leftOf_1 : (Cond.fieldLink RX9 190 "AnagramButcherModel" "planned" "I" : Cond) ∈ wsX9_leftOf := (List.mem_cons_of_mem _ (List.mem_append_left _ (List.mem_of_getElem? (i := 1) rfl)))
theorem mw_X9_leftOf_2 : (Cond.fieldLink RX9 7 "AnagramButcherModel" "words" "[J" : Cond) ∈ wsX9_leftOf := (List.mem_cons_of_mem _ (List.mem_append_left _ (List.mem_of_getElem? (i := 2) rfl)))
theorem mw_X9_leftOf_3 : (Cond.fieldLink RX9 48 "AnagramButcherModel" "plan" "[I" : Cond) ∈ wsX9_leftOf := (List.mem_cons_of_mem _ (List.mem_append_left _ (List.mem_of_getElem? (i := 3) rfl)))
theorem mi_X9_leftOf_X9 : ∀ w ∈ wsX90, w ∈ wsX9_leftOf := fun _ h => (List.mem_cons_of_mem _ (List.mem_append_right _ h))
set_option maxHeartbeats 4000000 in
set_option maxRecDepth 100000 in
theorem w_X9_leftOf_L9 {x : Cx} (hf : fx x (rm_X9_leftOf) RX9 cX9_leftOf wsX9_leftOf) (hn : xn x = 4) {k0 n0 : Nat} (hk : k0 ≤ (rm_X9_leftOf).cells ∧ n0 ≤ (rm_X9_leftOf).slots) (a0 a1 a2 a3 a4 a5 a6 a7 a8 a9 a10 a11 a12 a13 : Nat) (z1 : Int32) (v5 : Int32) (v6 : Nat → Int64) (v8 : Nat → Int32) (v0 : Int32) (v1 : Int32) (v2 : Int32) (v3 : Int32) (v4 : Int32) (v7 : Nat → Int32) {K41 : Int32 → Prop}
    (n : Nat) (z2 : Int32) (z3 : Int32) (h : P_X9_leftOf_L9 z1 v5 v6 v8 K41 n z2 z3)
    (hK41 : ∀ (y2 : Int32), K41 y2 → ww x (W_X9_leftOf (xg x) a0 a1 a2 a3 a4 a5 a6 a7 a8 a9 a10 a11 a12 a13 v0 v1 v2 v3 v4 v5 v6 v7 v8) [(2, .int y2)] k0 n0 41 []) :
    ww x (W_X9_leftOf (xg x) a0 a1 a2 a3 a4 a5 a6 a7 a8 a9 a10 a11 a12 a13 v0 v1 v2 v3 v4 v5 v6 v7 v8) [(0, .ref a0), (1, .int z1), (2, .int z2), (3, .int z3)] k0 n0 9 [] := by
  induction n generalizing z2 z3 with
  | zero => exact h.elim
  | succ n ih =>
    unfold P_X9_leftOf_L9 at h
    refine xw_iload_n hf (pc := 9) dX9_leftOf_9 rfl 3 rfl ?_
    refine xw_aload_n hf (pc := 10) dX9_leftOf_10 rfl 0 rfl ?_
    refine xw_get hf (pc := 11) dX9_leftOf_11 (T := TX9) mi_X9_leftOf_X9 rfl 0 rfl 18 (by decide) rfl mw_X9_leftOf_1 rfl ?_
    refine xw_icmp_ge hf (pc := 14) dX9_leftOf_14 (tgt := 41) rfl ⟨fun c => ?_, fun c => ?_⟩
    · have h := h.1 c
      refine xw_L [2] rfl ?_
      exact hK41 _ h
    · have h := h.2 c
      refine xw_iload_n hf (pc := 17) dX9_leftOf_17 rfl 2 rfl ?_
      refine xw_aload_n hf (pc := 18) dX9_leftOf_18 rfl 0 rfl ?_
      refine xw_get hf (pc := 19) dX9_leftOf_19 (T := TX9) mi_X9_leftOf_X9 rfl 0 rfl 1 (by decide) rfl mw_X9_leftOf_2 rfl ?_
      refine xw_aload_n hf (pc := 22) dX9_leftOf_22 rfl 0 rfl ?_
      refine xw_get hf (pc := 23) dX9_leftOf_23 (T := TX9) mi_X9_leftOf_X9 rfl 0 rfl 17 (by decide) rfl mw_X9_leftOf_3 rfl ?_
      refine xw_iload_n hf (pc := 26) dX9_leftOf_26 rfl 3 rfl ?_
      refine xw_iald hf (pc := 27) dX9_leftOf_27 3 rfl h.1 ?_
      have h := h.2
      refine xw_lald hf (pc := 28) dX9_leftOf_28 1 rfl h.1 ?_
      have h := h.2
      refine xw_iload_n hf (pc := 29) dX9_leftOf_29 rfl 1 rfl ?_
      refine xw_callS hf (pc := 30) (nA := 2) (Xr := W_X9_leftOf (xg x) a0 a1 a2 a3 a4 a5 a6 a7 a8 a9 a10 a11 a12 a13 v0 v1 v2 v3 v4 v5 v6 v7 v8) (rest := [.int z2]) (c_X9_countIn (xl x) (xg x) (v6 (v8 z3.toNatClampNeg).toNatClampNeg) z1 h) gX9_leftOf_X9_countIn (by rfl) rfl (by decide +kernel) ⟨⟨(Nat.le_of_ble_eq_true rfl), (Nat.le_of_ble_eq_true rfl)⟩, hk.1, hk.2⟩ (Nat.le_of_ble_eq_true rfl) (sb_rf _) rfl dX9_leftOf_30 (fun v X1 hp => ?_)
      obtain ⟨r2, rfl, rfl, h⟩ := hp
      show ww x (W_X9_leftOf (xg x) a0 a1 a2 a3 a4 a5 a6 a7 a8 a9 a10 a11 a12 a13 v0 v1 v2 v3 v4 v5 v6 v7 v8) [(0, .ref a0), (1, .int z1), (2, .int z2), (3, .int z3)] k0 n0 33 [.int r2, .int z2]
      refine xw_isub hf (pc := 33) dX9_leftOf_33 ?_
      refine xw_topi (fun y3 ey3 => ?_)
      have h := h y3 ey3
      refine xw_istore_n hf (pc := 34) dX9_leftOf_34 rfl [(2, .int y3), (0, .ref a0), (1, .int z1), (3, .int z3)] hn (by decide) rfl ?_
      refine xw_iinc hf (pc := 35) dX9_leftOf_35 (v := z3 + 1) 3 rfl rfl [(3, .int (z3 + 1)), (2, .int y3), (0, .ref a0), (1, .int z1)] hn (by decide) rfl ?_
      refine xw_goto hf (pc := 38) dX9_leftOf_38 (tgt := 9) rfl ?_
      refine xw_L [2, 3, 1, 0] rfl ?_
      exact ih _ _ h
set_option maxHeartbeats 4000000 in
set_option maxRecDepth 100000 in
theorem c_X9_leftOf (l : Launch) (g : Gx) (a0 a1 a2 a3 a4 a5 a6 a7 a8 a9 a10 a11 a12 a13 : Nat) (v0 : Int32) (v1 : Int32) (v2 : Int32) (v3 : Int32) (v4 : Int32) (v5 : Int32) (v6 : Nat → Int64) (v7 : Nat → Int32) (v8 : Nat → Int32) (p1 : Int32) {post : Int32 → Prop} (h : P_X9_leftOf post p1 v0 v1 v2 v3 v4 v5 v6 v7 v8) : cm l g yX9_leftOf wsX9_leftOf (rm_X9_leftOf) [.ref a0, .int p1] (W_X9_leftOf g a0 a1 a2 a3 a4 a5 a6 a7 a8 a9 a10 a11 a12 a13 v0 v1 v2 v3 v4 v5 v6 v7 v8) (fun v X1 => ∃ (r : Int32), v = some (.int r) ∧ X1 = W_X9_leftOf g a0 a1 a2 a3 a4 a5 a6 a7 a8 a9 a10 a11 a12 a13 v0 v1 v2 v3 v4 v5 v6 v7 v8 ∧ post r) := by
  refine cm_of (cc := cX9_leftOf) (nL := 4) (ret := (some .int)) (by decide +kernel) rfl (Nat.le_of_ble_eq_true rfl) ?_
  intro x hf hl hg hn hi hr
  subst hl
  subst hg
  show ww x (W_X9_leftOf (xg x) a0 a1 a2 a3 a4 a5 a6 a7 a8 a9 a10 a11 a12 a13 v0 v1 v2 v3 v4 v5 v6 v7 v8) [(0, .ref a0), (1, .int p1)] 0 0 0 []
  unfold P_X9_leftOf at h
  refine xw_aload_n hf (pc := 0) dX9_leftOf_0 rfl 0 rfl ?_
  refine xw_get hf (pc := 1) dX9_leftOf_1 (T := TX9) mi_X9_leftOf_X9 rfl 0 rfl 14 (by decide) rfl mw_X9_leftOf_0 rfl ?_
  refine xw_iload_n hf (pc := 4) dX9_leftOf_4 rfl 1 rfl ?_
  refine xw_iald hf (pc := 5) dX9_leftOf_5 2 rfl h.1 ?_
  have h := h.2
  refine xw_topi (fun y1 ey1 => ?_)
  have h := h y1 ey1
  refine xw_istore_n hf (pc := 6) dX9_leftOf_6 rfl [(2, .int y1), (0, .ref a0), (1, .int p1)] hn (by decide) rfl ?_
  refine xw_iconst hf (pc := 7) dX9_leftOf_7 (v := 0) (by decide) ?_
  refine xw_istore_n hf (pc := 8) dX9_leftOf_8 rfl [(3, .int 0), (2, .int y1), (0, .ref a0), (1, .int p1)] hn (by decide) rfl ?_
  refine xw_L [2, 3, 1, 0] rfl ?_
  refine w_X9_leftOf_L9 hf hn ⟨(Nat.le_of_ble_eq_true rfl), (Nat.le_of_ble_eq_true rfl)⟩ a0 a1 a2 a3 a4 a5 a6 a7 a8 a9 a10 a11 a12 a13 p1 v5 v6 v8 v0 v1 v2 v3 v4 v7 FU _ _ h (fun x4 h => ?_)
  refine xw_iload_n hf (pc := 41) dX9_leftOf_41 rfl 0 rfl ?_
  exact xw_iret hf (pc := 42) dX9_leftOf_42 hr (Nat.le_of_ble_eq_true rfl) (Nat.le_of_ble_eq_true rfl) ⟨_, rfl, rfl, h⟩
abbrev W_X9_receiptCount (g : Gx) (a0 a1 a2 a3 a4 a5 a6 a7 a8 a9 a10 a11 a12 a13 : Nat) (v0 : Int32) (v1 : Int32) (v2 : Int32) (v3 : Int32) (v4 : Int32) (v5 : Int32) : va_W := [(a0, .inr (9, [.int v0, .ref a1, .int v1, .ref a2, .ref a3, .ref a4, .ref a5, .ref a6, .ref a7, .ref a8, .int v2, .int v3, .ref a9, .int v4, .ref a10, .ref a11, .ref a12, .ref a13, .int v5]))]
abbrev rm_X9_receiptCount : Room := { frames := 0, cells := 0, slots := 0, locals := 0 }
theorem mw_X9_receiptCount_0 : (Cond.fieldLink RX9 55 "AnagramButcherModel" "thrown" "I" : Cond) ∈ wsX9_receiptCount := (List.mem_cons_of_mem _ (List.mem_append_left _ (List.mem_of_getElem? (i := 0) rfl)))
theorem mw_X9_receiptCount_1 : (Cond.fieldLink RX9 156 "AnagramButcherModel" "receipts" "I" : Cond) ∈ wsX9_receiptCount := (List.mem_cons_of_mem _ (List.mem_append_left _ (List.mem_of_getElem? (i := 1) rfl)))
theorem mi_X9_receiptCount_X9 : ∀ w ∈ wsX90, w ∈ wsX9_receiptCount := fun _ h => (List.mem_cons_of_mem _ (List.mem_append_right _ h))
set_option maxHeartbeats 4000000 in
set_option maxRecDepth 100000 in
theorem c_X9_receiptCount (l : Launch) (g : Gx) (a0 a1 a2 a3 a4 a5 a6 a7 a8 a9 a10 a11 a12 a13 : Nat) (v0 : Int32) (v1 : Int32) (v2 : Int32) (v3 : Int32) (v4 : Int32) (v5 : Int32) {post : Int32 → Int32 → Prop} (h : P_X9_receiptCount post v0 v1 v2 v3 v4 v5) : cm l g yX9_receiptCount wsX9_receiptCount (rm_X9_receiptCount) [.ref a0] (W_X9_receiptCount g a0 a1 a2 a3 a4 a5 a6 a7 a8 a9 a10 a11 a12 a13 v0 v1 v2 v3 v4 v5) (fun v X1 => ∃ (r : Int32) (uv0 : Int32), v = some (.int r) ∧ X1 = W_X9_receiptCount g a0 a1 a2 a3 a4 a5 a6 a7 a8 a9 a10 a11 a12 a13 uv0 v1 v2 v3 v4 v5 ∧ post r uv0) := by
  refine cm_of (cc := cX9_receiptCount) (nL := 1) (ret := (some .int)) (by decide +kernel) rfl (Nat.le_of_ble_eq_true rfl) ?_
  intro x hf hl hg hn hi hr
  subst hl
  subst hg
  show ww x (W_X9_receiptCount (xg x) a0 a1 a2 a3 a4 a5 a6 a7 a8 a9 a10 a11 a12 a13 v0 v1 v2 v3 v4 v5) [(0, .ref a0)] 0 0 0 []
  unfold P_X9_receiptCount at h
  refine xw_aload_n hf (pc := 0) dX9_receiptCount_0 rfl 0 rfl ?_
  refine xw_iconst hf (pc := 1) dX9_receiptCount_1 (v := 0) (by decide) ?_
  refine xw_put hf (pc := 2) dX9_receiptCount_2 (T := TX9) mi_X9_receiptCount_X9 rfl tyX9_ok nmX9 0 rfl 0 (by decide) rfl mw_X9_receiptCount_0 rfl rfl rfl rfl (Nat.le_of_ble_eq_true rfl) (W_X9_receiptCount (xg x) a0 a1 a2 a3 a4 a5 a6 a7 a8 a9 a10 a11 a12 a13 0 v1 v2 v3 v4 v5) rfl ?_
  refine xw_aload_n hf (pc := 5) dX9_receiptCount_5 rfl 0 rfl ?_
  refine xw_get hf (pc := 6) dX9_receiptCount_6 (T := TX9) mi_X9_receiptCount_X9 rfl 0 rfl 10 (by decide) rfl mw_X9_receiptCount_1 rfl ?_
  exact xw_iret hf (pc := 9) dX9_receiptCount_9 hr (Nat.le_of_ble_eq_true rfl) (Nat.le_of_ble_eq_true rfl) ⟨_, _, rfl, rfl, h⟩
abbrev W_X9_isReceipt (g : Gx) (a0 a1 a2 a3 a4 a5 a6 a7 a8 a9 a10 a11 a12 a13 : Nat) (v0 : Int32) (v1 : Int32) (v2 : Int32) (v3 : Int32) (v4 : Int32) (v5 : Int32) : va_W := [(a0, .inr (9, [.int v0, .ref a1, .int v1, .ref a2, .ref a3, .ref a4, .ref a5, .ref a6, .ref a7, .ref a8, .int v2, .int v3, .ref a9, .int v4, .ref a10, .ref a11, .ref a12, .ref a13, .int v5]))]
abbrev rm_X9_isReceipt : Room := { frames := 1, cells := 0, slots := 0, locals := 22 }
theorem mw_X9_isReceipt_0 : (Cond.fieldLink RX9 156 "AnagramButcherModel" "receipts" "I" : Cond) ∈ wsX9_isReceipt := (List.mem_cons_of_mem _ (List.mem_append_left _ (List.mem_of_getElem? (i := 0) rfl)))
theorem mi_X9_isReceipt_X9 : ∀ w ∈ wsX90, w ∈ wsX9_isReceipt := fun _ h => (List.mem_cons_of_mem _ (List.mem_append_right _ h))
set_option maxHeartbeats 4000000 in
set_option maxRecDepth 100000 in
theorem c_X9_isReceipt (l : Launch) (g : Gx) (a0 a1 a2 a3 a4 a5 a6 a7 a8 a9 a10 a11 a12 a13 : Nat) (v0 : Int32) (v1 : Int32) (v2 : Int32) (v3 : Int32) (v4 : Int32) (v5 : Int32) (p1 : Int32) {post : Int32 → Int32 → Prop} (h : P_X9_isReceipt post p1 v0 v1 v2 v3 v4 v5) : cm l g yX9_isReceipt wsX9_isReceipt (rm_X9_isReceipt) [.ref a0, .int p1] (W_X9_isReceipt g a0 a1 a2 a3 a4 a5 a6 a7 a8 a9 a10 a11 a12 a13 v0 v1 v2 v3 v4 v5) (fun v X1 => ∃ (r : Int32) (uv0 : Int32), v = some (.int r) ∧ X1 = W_X9_isReceipt g a0 a1 a2 a3 a4 a5 a6 a7 a8 a9 a10 a11 a12 a13 uv0 v1 v2 v3 v4 v5 ∧ post r uv0) := by
  refine cm_of (cc := cX9_isReceipt) (nL := 2) (ret := (some .boolean)) (by decide +kernel) rfl (Nat.le_of_ble_eq_true rfl) ?_
  intro x hf hl hg hn hi hr
  subst hl
  subst hg
  show ww x (W_X9_isReceipt (xg x) a0 a1 a2 a3 a4 a5 a6 a7 a8 a9 a10 a11 a12 a13 v0 v1 v2 v3 v4 v5) [(0, .ref a0), (1, .int p1)] 0 0 0 []
  unfold P_X9_isReceipt at h
  refine xw_aload_n hf (pc := 0) dX9_isReceipt_0 rfl 0 rfl ?_
  refine xw_iload_n hf (pc := 1) dX9_isReceipt_1 rfl 1 rfl ?_
  refine xw_iconst hf (pc := 2) dX9_isReceipt_2 (v := 0) (by decide) ?_
  refine xw_aload_n hf (pc := 3) dX9_isReceipt_3 rfl 0 rfl ?_
  refine xw_get hf (pc := 4) dX9_isReceipt_4 (T := TX9) mi_X9_isReceipt_X9 rfl 0 rfl 10 (by decide) rfl mw_X9_isReceipt_0 rfl ?_
  refine xw_iconst hf (pc := 7) dX9_isReceipt_7 (v := 1) (by decide) ?_
  refine xw_isub hf (pc := 8) dX9_isReceipt_8 ?_
  refine xw_callS hf (pc := 9) (nA := 3) (Xr := W_X9_isReceipt (xg x) a0 a1 a2 a3 a4 a5 a6 a7 a8 a9 a10 a11 a12 a13 v0 v1 v2 v3 v4 v5) (rest := [.ref a0]) (c_X9_isWithin (xl x) (xg x) p1 0 (v2 - 1) h) gX9_isReceipt_X9_isWithin (by rfl) rfl (by decide +kernel) ⟨⟨(Nat.le_of_ble_eq_true rfl), (Nat.le_of_ble_eq_true rfl)⟩, (Nat.le_of_ble_eq_true rfl), (Nat.le_of_ble_eq_true rfl)⟩ (Nat.le_of_ble_eq_true rfl) (sb_rf _) rfl dX9_isReceipt_9 (fun v X1 hp => ?_)
  obtain ⟨r1, rfl, rfl, h⟩ := hp
  show ww x (W_X9_isReceipt (xg x) a0 a1 a2 a3 a4 a5 a6 a7 a8 a9 a10 a11 a12 a13 v0 v1 v2 v3 v4 v5) [(0, .ref a0), (1, .int p1)] 0 0 12 [.int r1, .ref a0]
  refine xw_callV hf (pc := 12) (nA := 1) (Xr := []) (rest := []) (T := TX9) (c_X9_isGood (xl x) (xg x) a0 a1 a2 a3 a4 a5 a6 a7 a8 a9 a10 a11 a12 a13 v0 v1 v2 v3 v4 v5 r1 h) gX9_isReceipt_X9_isGood (by rfl) rfl rfl (by decide +kernel) ⟨⟨(Nat.le_of_ble_eq_true rfl), (Nat.le_of_ble_eq_true rfl)⟩, (Nat.le_of_ble_eq_true rfl), (Nat.le_of_ble_eq_true rfl)⟩ (Nat.le_of_ble_eq_true rfl) rfl rfl (sb_of [0] rfl rfl) rfl dX9_isReceipt_12 (fun v X1 hp => ?_)
  obtain ⟨r2, w3, rfl, rfl, h⟩ := hp
  refine xw_X (sb_of [0] rfl rfl) (show ww x (W_X9_isReceipt (xg x) a0 a1 a2 a3 a4 a5 a6 a7 a8 a9 a10 a11 a12 a13 w3 v1 v2 v3 v4 v5) [(0, .ref a0), (1, .int p1)] 0 0 15 [.int r2] from ?_)
  exact xw_zret hf (pc := 15) dX9_isReceipt_15 hr (Nat.le_of_ble_eq_true rfl) (Nat.le_of_ble_eq_true rfl) h.1 ⟨_, _, rfl, rfl, h.2⟩
abbrev W_X9_takings (g : Gx) (a0 a1 a2 a3 a4 a5 a6 a7 a8 a9 a10 a11 a12 a13 : Nat) (v0 : Int32) (v1 : Int32) (v2 : Int32) (v3 : Int32) (v4 : Int32) (v5 : Int32) : va_W := [(a0, .inr (9, [.int v0, .ref a1, .int v1, .ref a2, .ref a3, .ref a4, .ref a5, .ref a6, .ref a7, .ref a8, .int v2, .int v3, .ref a9, .int v4, .ref a10, .ref a11, .ref a12, .ref a13, .int v5]))]
abbrev rm_X9_takings : Room := { frames := 0, cells := 0, slots := 0, locals := 0 }
theorem mw_X9_takings_0 : (Cond.fieldLink RX9 55 "AnagramButcherModel" "thrown" "I" : Cond) ∈ wsX9_takings := (List.mem_cons_of_mem _ (List.mem_append_left _ (List.mem_of_getElem? (i := 0) rfl)))
theorem mw_X9_takings_1 : (Cond.fieldLink RX9 159 "AnagramButcherModel" "takings" "I" : Cond) ∈ wsX9_takings := (List.mem_cons_of_mem _ (List.mem_append_left _ (List.mem_of_getElem? (i := 1) rfl)))
theorem mi_X9_takings_X9 : ∀ w ∈ wsX90, w ∈ wsX9_takings := fun _ h => (List.mem_cons_of_mem _ (List.mem_append_right _ h))
set_option maxHeartbeats 4000000 in
set_option maxRecDepth 100000 in
theorem c_X9_takings (l : Launch) (g : Gx) (a0 a1 a2 a3 a4 a5 a6 a7 a8 a9 a10 a11 a12 a13 : Nat) (v0 : Int32) (v1 : Int32) (v2 : Int32) (v3 : Int32) (v4 : Int32) (v5 : Int32) {post : Int32 → Int32 → Prop} (h : P_X9_takings post v0 v1 v2 v3 v4 v5) : cm l g yX9_takings wsX9_takings (rm_X9_takings) [.ref a0] (W_X9_takings g a0 a1 a2 a3 a4 a5 a6 a7 a8 a9 a10 a11 a12 a13 v0 v1 v2 v3 v4 v5) (fun v X1 => ∃ (r : Int32) (uv0 : Int32), v = some (.int r) ∧ X1 = W_X9_takings g a0 a1 a2 a3 a4 a5 a6 a7 a8 a9 a10 a11 a12 a13 uv0 v1 v2 v3 v4 v5 ∧ post r uv0) := by
  refine cm_of (cc := cX9_takings) (nL := 1) (ret := (some .int)) (by decide +kernel) rfl (Nat.le_of_ble_eq_true rfl) ?_
  intro x hf hl hg hn hi hr
  subst hl
  subst hg
  show ww x (W_X9_takings (xg x) a0 a1 a2 a3 a4 a5 a6 a7 a8 a9 a10 a11 a12 a13 v0 v1 v2 v3 v4 v5) [(0, .ref a0)] 0 0 0 []
  unfold P_X9_takings at h
  refine xw_aload_n hf (pc := 0) dX9_takings_0 rfl 0 rfl ?_
  refine xw_iconst hf (pc := 1) dX9_takings_1 (v := 0) (by decide) ?_
  refine xw_put hf (pc := 2) dX9_takings_2 (T := TX9) mi_X9_takings_X9 rfl tyX9_ok nmX9 0 rfl 0 (by decide) rfl mw_X9_takings_0 rfl rfl rfl rfl (Nat.le_of_ble_eq_true rfl) (W_X9_takings (xg x) a0 a1 a2 a3 a4 a5 a6 a7 a8 a9 a10 a11 a12 a13 0 v1 v2 v3 v4 v5) rfl ?_
  refine xw_aload_n hf (pc := 5) dX9_takings_5 rfl 0 rfl ?_
  refine xw_get hf (pc := 6) dX9_takings_6 (T := TX9) mi_X9_takings_X9 rfl 0 rfl 11 (by decide) rfl mw_X9_takings_1 rfl ?_
  exact xw_iret hf (pc := 9) dX9_takings_9 hr (Nat.le_of_ble_eq_true rfl) (Nat.le_of_ble_eq_true rfl) ⟨_, _, rfl, rfl, h⟩
abbrev W_X9_cameIn (g : Gx) (a0 a1 a2 a3 a4 a5 a6 a7 a8 a9 a10 a11 a12 a13 : Nat) (v0 : Int32) (v1 : Int32) (v2 : Int32) (v3 : Int32) (v4 : Int32) (v5 : Int32) (v6 : Nat → Int32) : va_W := [(a0, .inr (9, [.int v0, .ref a2, .int v1, .ref a3, .ref a4, .ref a1, .ref a5, .ref a6, .ref a7, .ref a8, .int v2, .int v3, .ref a9, .int v4, .ref a10, .ref a11, .ref a12, .ref a13, .int v5])), (a1, .inl (gI g, 27, .inl v6))]
abbrev rm_X9_cameIn : Room := { frames := 2, cells := 0, slots := 0, locals := 44 }
theorem mw_X9_cameIn_0 : (Cond.fieldLink RX9 20 "AnagramButcherModel" "came" "[I" : Cond) ∈ wsX9_cameIn := (List.mem_cons_of_mem _ (List.mem_append_left _ (List.mem_of_getElem? (i := 0) rfl)))
theorem mi_X9_cameIn_X9 : ∀ w ∈ wsX90, w ∈ wsX9_cameIn := fun _ h => (List.mem_cons_of_mem _ (List.mem_append_right _ h))
set_option maxHeartbeats 4000000 in
set_option maxRecDepth 100000 in
theorem c_X9_cameIn (l : Launch) (g : Gx) (a0 a1 a2 a3 a4 a5 a6 a7 a8 a9 a10 a11 a12 a13 : Nat) (v0 : Int32) (v1 : Int32) (v2 : Int32) (v3 : Int32) (v4 : Int32) (v5 : Int32) (v6 : Nat → Int32) (p1 : Int32) {post : Int32 → Int32 → Prop} (h : P_X9_cameIn post p1 v0 v1 v2 v3 v4 v5 v6) : cm l g yX9_cameIn wsX9_cameIn (rm_X9_cameIn) [.ref a0, .int p1] (W_X9_cameIn g a0 a1 a2 a3 a4 a5 a6 a7 a8 a9 a10 a11 a12 a13 v0 v1 v2 v3 v4 v5 v6) (fun v X1 => ∃ (r : Int32) (uv0 : Int32), v = some (.int r) ∧ X1 = W_X9_cameIn g a0 a1 a2 a3 a4 a5 a6 a7 a8 a9 a10 a11 a12 a13 uv0 v1 v2 v3 v4 v5 v6 ∧ post r uv0) := by
  refine cm_of (cc := cX9_cameIn) (nL := 2) (ret := (some .int)) (by decide +kernel) rfl (Nat.le_of_ble_eq_true rfl) ?_
  intro x hf hl hg hn hi hr
  subst hl
  subst hg
  show ww x (W_X9_cameIn (xg x) a0 a1 a2 a3 a4 a5 a6 a7 a8 a9 a10 a11 a12 a13 v0 v1 v2 v3 v4 v5 v6) [(0, .ref a0), (1, .int p1)] 0 0 0 []
  unfold P_X9_cameIn at h
  refine xw_aload_n hf (pc := 0) dX9_cameIn_0 rfl 0 rfl ?_
  refine xw_aload_n hf (pc := 1) dX9_cameIn_1 rfl 0 rfl ?_
  refine xw_get hf (pc := 2) dX9_cameIn_2 (T := TX9) mi_X9_cameIn_X9 rfl 0 rfl 5 (by decide) rfl mw_X9_cameIn_0 rfl ?_
  refine xw_iload_n hf (pc := 5) dX9_cameIn_5 rfl 1 rfl ?_
  refine xw_callV hf (pc := 6) (nA := 2) (Xr := []) (rest := []) (T := TX9) (c_X9_ofLetter (xl x) (xg x) a0 a1 a2 a3 a4 a1 a5 a6 a7 a8 a9 a10 a11 a12 a13 v0 v1 v2 v3 v4 v5 v6 p1 h) gX9_cameIn_X9_ofLetter (by rfl) rfl rfl (by decide +kernel) ⟨⟨(Nat.le_of_ble_eq_true rfl), (Nat.le_of_ble_eq_true rfl)⟩, (Nat.le_of_ble_eq_true rfl), (Nat.le_of_ble_eq_true rfl)⟩ (Nat.le_of_ble_eq_true rfl) rfl rfl (sb_of [0, 1] rfl rfl) rfl dX9_cameIn_6 (fun v X1 hp => ?_)
  obtain ⟨r1, w2, rfl, rfl, h⟩ := hp
  refine xw_X (sb_of [0, 1] rfl rfl) (show ww x (W_X9_cameIn (xg x) a0 a1 a2 a3 a4 a5 a6 a7 a8 a9 a10 a11 a12 a13 w2 v1 v2 v3 v4 v5 v6) [(0, .ref a0), (1, .int p1)] 0 0 9 [.int r1] from ?_)
  exact xw_iret hf (pc := 9) dX9_cameIn_9 hr (Nat.le_of_ble_eq_true rfl) (Nat.le_of_ble_eq_true rfl) ⟨_, _, rfl, rfl, h⟩
abbrev W_X9_soldPieces (g : Gx) (a0 a1 a2 a3 a4 a5 a6 a7 a8 a9 a10 a11 a12 a13 : Nat) (v0 : Int32) (v1 : Int32) (v2 : Int32) (v3 : Int32) (v4 : Int32) (v5 : Int32) (v6 : Nat → Int32) : va_W := [(a0, .inr (9, [.int v0, .ref a2, .int v1, .ref a3, .ref a4, .ref a5, .ref a1, .ref a6, .ref a7, .ref a8, .int v2, .int v3, .ref a9, .int v4, .ref a10, .ref a11, .ref a12, .ref a13, .int v5])), (a1, .inl (gI g, 27, .inl v6))]
abbrev rm_X9_soldPieces : Room := { frames := 2, cells := 0, slots := 0, locals := 44 }
theorem mw_X9_soldPieces_0 : (Cond.fieldLink RX9 23 "AnagramButcherModel" "sold" "[I" : Cond) ∈ wsX9_soldPieces := (List.mem_cons_of_mem _ (List.mem_append_left _ (List.mem_of_getElem? (i := 0) rfl)))
theorem mi_X9_soldPieces_X9 : ∀ w ∈ wsX90, w ∈ wsX9_soldPieces := fun _ h => (List.mem_cons_of_mem _ (List.mem_append_right _ h))
set_option maxHeartbeats 4000000 in
set_option maxRecDepth 100000 in
theorem c_X9_soldPieces (l : Launch) (g : Gx) (a0 a1 a2 a3 a4 a5 a6 a7 a8 a9 a10 a11 a12 a13 : Nat) (v0 : Int32) (v1 : Int32) (v2 : Int32) (v3 : Int32) (v4 : Int32) (v5 : Int32) (v6 : Nat → Int32) (p1 : Int32) {post : Int32 → Int32 → Prop} (h : P_X9_soldPieces post p1 v0 v1 v2 v3 v4 v5 v6) : cm l g yX9_soldPieces wsX9_soldPieces (rm_X9_soldPieces) [.ref a0, .int p1] (W_X9_soldPieces g a0 a1 a2 a3 a4 a5 a6 a7 a8 a9 a10 a11 a12 a13 v0 v1 v2 v3 v4 v5 v6) (fun v X1 => ∃ (r : Int32) (uv0 : Int32), v = some (.int r) ∧ X1 = W_X9_soldPieces g a0 a1 a2 a3 a4 a5 a6 a7 a8 a9 a10 a11 a12 a13 uv0 v1 v2 v3 v4 v5 v6 ∧ post r uv0) := by
  refine cm_of (cc := cX9_soldPieces) (nL := 2) (ret := (some .int)) (by decide +kernel) rfl (Nat.le_of_ble_eq_true rfl) ?_
  intro x hf hl hg hn hi hr
  subst hl
  subst hg
  show ww x (W_X9_soldPieces (xg x) a0 a1 a2 a3 a4 a5 a6 a7 a8 a9 a10 a11 a12 a13 v0 v1 v2 v3 v4 v5 v6) [(0, .ref a0), (1, .int p1)] 0 0 0 []
  unfold P_X9_soldPieces at h
  refine xw_aload_n hf (pc := 0) dX9_soldPieces_0 rfl 0 rfl ?_
  refine xw_aload_n hf (pc := 1) dX9_soldPieces_1 rfl 0 rfl ?_
  refine xw_get hf (pc := 2) dX9_soldPieces_2 (T := TX9) mi_X9_soldPieces_X9 rfl 0 rfl 6 (by decide) rfl mw_X9_soldPieces_0 rfl ?_
  refine xw_iload_n hf (pc := 5) dX9_soldPieces_5 rfl 1 rfl ?_
  refine xw_callV hf (pc := 6) (nA := 2) (Xr := []) (rest := []) (T := TX9) (c_X9_ofLetter (xl x) (xg x) a0 a1 a2 a3 a4 a5 a1 a6 a7 a8 a9 a10 a11 a12 a13 v0 v1 v2 v3 v4 v5 v6 p1 h) gX9_soldPieces_X9_ofLetter (by rfl) rfl rfl (by decide +kernel) ⟨⟨(Nat.le_of_ble_eq_true rfl), (Nat.le_of_ble_eq_true rfl)⟩, (Nat.le_of_ble_eq_true rfl), (Nat.le_of_ble_eq_true rfl)⟩ (Nat.le_of_ble_eq_true rfl) rfl rfl (sb_of [0, 1] rfl rfl) rfl dX9_soldPieces_6 (fun v X1 hp => ?_)
  obtain ⟨r1, w2, rfl, rfl, h⟩ := hp
  refine xw_X (sb_of [0, 1] rfl rfl) (show ww x (W_X9_soldPieces (xg x) a0 a1 a2 a3 a4 a5 a6 a7 a8 a9 a10 a11 a12 a13 w2 v1 v2 v3 v4 v5 v6) [(0, .ref a0), (1, .int p1)] 0 0 9 [.int r1] from ?_)
  exact xw_iret hf (pc := 9) dX9_soldPieces_9 hr (Nat.le_of_ble_eq_true rfl) (Nat.le_of_ble_eq_true rfl) ⟨_, _, rfl, rfl, h⟩
