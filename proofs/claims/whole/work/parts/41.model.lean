abbrev W_X9_total (g : Gx) (a0 a1 a2 a3 a4 a5 a6 a7 a8 a9 a10 a11 a12 a13 : Nat) (v0 : Int32) (v1 : Int32) (v2 : Int32) (v3 : Int32) (v4 : Int32) (v5 : Int32) (v6 : Nat → Int32) : va_W := [(a0, .inr (9, [.int v0, .ref a2, .int v1, .ref a1, .ref a3, .ref a4, .ref a5, .ref a6, .ref a7, .ref a8, .int v2, .int v3, .ref a9, .int v4, .ref a10, .ref a11, .ref a12, .ref a13, .int v5])), (a1, .inl (gI g, 27, .inl v6))]
abbrev rm_X9_total : Room := { frames := 0, cells := 0, slots := 0, locals := 0 }
theorem mw_X9_total_0 : (Cond.fieldLink RX9 13 "AnagramButcherModel" "stock" "[I" : Cond) ∈ wsX9_total := (List.mem_cons_of_mem _ (List.mem_append_left _ (List.mem_of_getElem? (i := 0) rfl)))
theorem mi_X9_total_X9 : ∀ w ∈ wsX90, w ∈ wsX9_total := fun _ h => (List.mem_cons_of_mem _ (List.mem_append_right _ h))
set_option maxHeartbeats 4000000 in
set_option maxRecDepth 100000 in
theorem w_X9_total_L4 {x : Cx} (hf : fx x (rm_X9_total) RX9 cX9_total wsX9_total) (hn : xn x = 3) {k0 n0 : Nat} (hk : k0 ≤ (rm_X9_total).cells ∧ n0 ≤ (rm_X9_total).slots) (a0 a1 a2 a3 a4 a5 a6 a7 a8 a9 a10 a11 a12 a13 : Nat) (v6 : Nat → Int32) (v0 : Int32) (v1 : Int32) (v2 : Int32) (v3 : Int32) (v4 : Int32) (v5 : Int32) {K25 : Int32 → Prop}
    (n : Nat) (z1 : Int32) (z2 : Int32) (h : P_X9_total_L4 v6 K25 n z1 z2)
    (hK25 : ∀ (y1 : Int32), K25 y1 → ww x (W_X9_total (xg x) a0 a1 a2 a3 a4 a5 a6 a7 a8 a9 a10 a11 a12 a13 v0 v1 v2 v3 v4 v5 v6) [(1, .int y1)] k0 n0 25 []) :
    ww x (W_X9_total (xg x) a0 a1 a2 a3 a4 a5 a6 a7 a8 a9 a10 a11 a12 a13 v0 v1 v2 v3 v4 v5 v6) [(0, .ref a0), (1, .int z1), (2, .int z2)] k0 n0 4 [] := by
  induction n generalizing z1 z2 with
  | zero => exact h.elim
  | succ n ih =>
    unfold P_X9_total_L4 at h
    refine xw_iload_n hf (pc := 4) dX9_total_4 rfl 2 rfl ?_
    refine xw_bipush hf (pc := 5) dX9_total_5 (v := 26) (by decide) ?_
    refine xw_icmp_gt hf (pc := 7) dX9_total_7 (tgt := 25) rfl ⟨fun c => ?_, fun c => ?_⟩
    · have h := h.1 c
      refine xw_L [1] rfl ?_
      exact hK25 _ h
    · have h := h.2 c
      refine xw_iload_n hf (pc := 10) dX9_total_10 rfl 1 rfl ?_
      refine xw_aload_n hf (pc := 11) dX9_total_11 rfl 0 rfl ?_
      refine xw_get hf (pc := 12) dX9_total_12 (T := TX9) mi_X9_total_X9 rfl 0 rfl 3 (by decide) rfl mw_X9_total_0 rfl ?_
      refine xw_iload_n hf (pc := 15) dX9_total_15 rfl 2 rfl ?_
      refine xw_iald hf (pc := 16) dX9_total_16 1 rfl h.1 ?_
      have h := h.2
      refine xw_iadd hf (pc := 17) dX9_total_17 ?_
      refine xw_topi (fun y1 ey1 => ?_)
      have h := h y1 ey1
      refine xw_istore_n hf (pc := 18) dX9_total_18 rfl [(1, .int y1), (0, .ref a0), (2, .int z2)] hn (by decide) rfl ?_
      refine xw_iinc hf (pc := 19) dX9_total_19 (v := z2 + 1) 2 rfl rfl [(2, .int (z2 + 1)), (1, .int y1), (0, .ref a0)] hn (by decide) rfl ?_
      refine xw_goto hf (pc := 22) dX9_total_22 (tgt := 4) rfl ?_
      refine xw_L [2, 1, 0] rfl ?_
      exact ih _ _ h
set_option maxHeartbeats 4000000 in
set_option maxRecDepth 100000 in
theorem c_X9_total (l : Launch) (g : Gx) (a0 a1 a2 a3 a4 a5 a6 a7 a8 a9 a10 a11 a12 a13 : Nat) (v0 : Int32) (v1 : Int32) (v2 : Int32) (v3 : Int32) (v4 : Int32) (v5 : Int32) (v6 : Nat → Int32) {post : Int32 → Prop} (h : P_X9_total post v0 v1 v2 v3 v4 v5 v6) : cm l g yX9_total wsX9_total (rm_X9_total) [.ref a0] (W_X9_total g a0 a1 a2 a3 a4 a5 a6 a7 a8 a9 a10 a11 a12 a13 v0 v1 v2 v3 v4 v5 v6) (fun v X1 => ∃ (r : Int32), v = some (.int r) ∧ X1 = W_X9_total g a0 a1 a2 a3 a4 a5 a6 a7 a8 a9 a10 a11 a12 a13 v0 v1 v2 v3 v4 v5 v6 ∧ post r) := by
  refine cm_of (cc := cX9_total) (nL := 3) (ret := (some .int)) (by decide +kernel) rfl (Nat.le_of_ble_eq_true rfl) ?_
  intro x hf hl hg hn hi hr
  subst hl
  subst hg
  show ww x (W_X9_total (xg x) a0 a1 a2 a3 a4 a5 a6 a7 a8 a9 a10 a11 a12 a13 v0 v1 v2 v3 v4 v5 v6) [(0, .ref a0)] 0 0 0 []
  unfold P_X9_total at h
  refine xw_iconst hf (pc := 0) dX9_total_0 (v := 0) (by decide) ?_
  refine xw_istore_n hf (pc := 1) dX9_total_1 rfl [(1, .int 0), (0, .ref a0)] hn (by decide) rfl ?_
  refine xw_iconst hf (pc := 2) dX9_total_2 (v := 1) (by decide) ?_
  refine xw_istore_n hf (pc := 3) dX9_total_3 rfl [(2, .int 1), (1, .int 0), (0, .ref a0)] hn (by decide) rfl ?_
  refine xw_L [2, 1, 0] rfl ?_
  refine w_X9_total_L4 hf hn ⟨(Nat.le_of_ble_eq_true rfl), (Nat.le_of_ble_eq_true rfl)⟩ a0 a1 a2 a3 a4 a5 a6 a7 a8 a9 a10 a11 a12 a13 v6 v0 v1 v2 v3 v4 v5 FU _ _ h (fun x2 h => ?_)
  refine xw_iload_n hf (pc := 25) dX9_total_25 rfl 0 rfl ?_
  exact xw_iret hf (pc := 26) dX9_total_26 hr (Nat.le_of_ble_eq_true rfl) (Nat.le_of_ble_eq_true rfl) ⟨_, rfl, rfl, h⟩
abbrev W_X9_cut (g : Gx) (a0 a1 a2 a3 a4 a5 a6 a7 a8 a9 a10 a11 a12 a13 : Nat) (v0 : Int32) (v1 : Int32) (v2 : Int32) (v3 : Int32) (v4 : Int32) (v5 : Int32) (v6 : Nat → Int32) (v7 : Nat → Int32) (v8 : Nat → Int32) (v9 : Nat → Int32) : va_W := [(a0, .inr (9, [.int v0, .ref a5, .int v1, .ref a1, .ref a6, .ref a2, .ref a7, .ref a8, .ref a9, .ref a10, .int v2, .int v3, .ref a3, .int v4, .ref a4, .ref a11, .ref a12, .ref a13, .int v5])), (a1, .inl (gI g, 27, .inl v6)), (a2, .inl (gI g, 27, .inl v7)), (a3, .inl (gI g, 12, .inl v8)), (a4, .inl (gI g, 27, .inl v9))]
abbrev rm_X9_cut : Room := { frames := 2, cells := 0, slots := 0, locals := 48 }
theorem mw_X9_cut_0 : (Cond.fieldLink RX9 13 "AnagramButcherModel" "stock" "[I" : Cond) ∈ wsX9_cut := (List.mem_cons_of_mem _ (List.mem_append_left _ (List.mem_append_left _ (List.mem_of_getElem? (l := wsX9_cut_r1) (i := 0) rfl))))
theorem mw_X9_cut_1 : (Cond.fieldLink RX9 39 "AnagramButcherModel" "counts" "[I" : Cond) ∈ wsX9_cut := (List.mem_cons_of_mem _ (List.mem_append_left _ (List.mem_append_left _ (List.mem_of_getElem? (l := wsX9_cut_r1) (i := 1) rfl))))
theorem mw_X9_cut_2 : (Cond.fieldLink RX9 20 "AnagramButcherModel" "came" "[I" : Cond) ∈ wsX9_cut := (List.mem_cons_of_mem _ (List.mem_append_left _ (List.mem_append_left _ (List.mem_of_getElem? (l := wsX9_cut_r1) (i := 2) rfl))))
theorem mi_X9_cut_X9 : ∀ w ∈ wsX90, w ∈ wsX9_cut := fun _ h => (List.mem_cons_of_mem _ (List.mem_append_right _ h))
set_option maxHeartbeats 4000000 in
set_option maxRecDepth 100000 in
theorem w_X9_cut_L39 {x : Cx} (hf : fx x (rm_X9_cut) RX9 cX9_cut wsX9_cut) (hn : xn x = 5) {k0 n0 : Nat} (hk : k0 ≤ (rm_X9_cut).cells ∧ n0 ≤ (rm_X9_cut).slots) (a0 a1 a2 a3 a4 a5 a6 a7 a8 a9 a10 a11 a12 a13 : Nat) (z3 : Int32) (v6 : Nat → Int32) (v9 : Nat → Int32) (v0 : Int32) (v1 : Int32) (v2 : Int32) (v3 : Int32) (v4 : Int32) (v5 : Int32) (v7 : Nat → Int32) (v8 : Nat → Int32) {K69 : Prop} {K81 : Prop}
    (n : Nat) (z4 : Int32) (h : P_X9_cut_L39 z3 v6 v9 K69 K81 n z4)
    (hK69 : K69 → ww x (W_X9_cut (xg x) a0 a1 a2 a3 a4 a5 a6 a7 a8 a9 a10 a11 a12 a13 v0 v1 v2 v3 v4 v5 v6 v7 v8 v9) [(0, .ref a0)] k0 n0 69 [])
    (hK81 : K81 → ww x (W_X9_cut (xg x) a0 a1 a2 a3 a4 a5 a6 a7 a8 a9 a10 a11 a12 a13 v0 v1 v2 v3 v4 v5 v6 v7 v8 v9) [(0, .ref a0), (3, .int z3)] k0 n0 81 []) :
    ww x (W_X9_cut (xg x) a0 a1 a2 a3 a4 a5 a6 a7 a8 a9 a10 a11 a12 a13 v0 v1 v2 v3 v4 v5 v6 v7 v8 v9) [(0, .ref a0), (3, .int z3), (4, .int z4)] k0 n0 39 [] := by
  induction n generalizing z4 with
  | zero => exact h.elim
  | succ n ih =>
    unfold P_X9_cut_L39 at h
    refine xw_iload hf (pc := 39) dX9_cut_39 2 rfl ?_
    refine xw_bipush hf (pc := 41) dX9_cut_41 (v := 26) (by decide) ?_
    refine xw_icmp_gt hf (pc := 43) dX9_cut_43 (tgt := 81) rfl ⟨fun c => ?_, fun c => ?_⟩
    · have h := h.1 c
      refine xw_L [0, 1] rfl ?_
      exact hK81 h
    · have h := h.2 c
      refine xw_aload_n hf (pc := 46) dX9_cut_46 rfl 0 rfl ?_
      refine xw_get hf (pc := 47) dX9_cut_47 (T := TX9) mi_X9_cut_X9 rfl 0 rfl 3 (by decide) rfl mw_X9_cut_0 rfl ?_
      refine xw_iload hf (pc := 50) dX9_cut_50 2 rfl ?_
      refine xw_iald hf (pc := 52) dX9_cut_52 1 rfl h.1 ?_
      have h := h.2
      refine xw_iload_n hf (pc := 53) dX9_cut_53 rfl 1 rfl ?_
      refine xw_aload_n hf (pc := 54) dX9_cut_54 rfl 0 rfl ?_
      refine xw_get hf (pc := 55) dX9_cut_55 (T := TX9) mi_X9_cut_X9 rfl 0 rfl 14 (by decide) rfl mw_X9_cut_1 rfl ?_
      refine xw_iload hf (pc := 58) dX9_cut_58 2 rfl ?_
      refine xw_iald hf (pc := 60) dX9_cut_60 4 rfl h.1 ?_
      have h := h.2
      refine xw_imul hf (pc := 61) dX9_cut_61 ?_
      refine xw_iadd hf (pc := 62) dX9_cut_62 ?_
      refine xw_sipush hf (pc := 63) dX9_cut_63 (v := 999) (by decide) ?_
      refine xw_icmp_le hf (pc := 66) dX9_cut_66 (tgt := 75) rfl ⟨fun c => ?_, fun c => ?_⟩
      · have h := h.1 c
        refine xw_iinc hf (pc := 75) dX9_cut_75 (v := z4 + 1) 2 rfl rfl [(4, .int (z4 + 1)), (0, .ref a0), (3, .int z3)] hn (by decide) rfl ?_
        refine xw_goto hf (pc := 78) dX9_cut_78 (tgt := 39) rfl ?_
        refine xw_L [1, 2, 0] rfl ?_
        exact ih _ h
      · have h := h.2 c
        refine xw_L [0] rfl ?_
        exact hK69 h
set_option maxHeartbeats 4000000 in
set_option maxRecDepth 100000 in
theorem w_X9_cut_L84 {x : Cx} (hf : fx x (rm_X9_cut) RX9 cX9_cut wsX9_cut) (hn : xn x = 5) {k0 n0 : Nat} (hk : k0 ≤ (rm_X9_cut).cells ∧ n0 ≤ (rm_X9_cut).slots) (a0 a1 a2 a3 a4 a5 a6 a7 a8 a9 a10 a11 a12 a13 : Nat) (z3 : Int32) (v9 : Nat → Int32) (v0 : Int32) (v1 : Int32) (v2 : Int32) (v3 : Int32) (v4 : Int32) (v5 : Int32) (v8 : Nat → Int32) {K135 : (Nat → Int32) → (Nat → Int32) → Prop}
    (n : Nat) (z4 : Int32) (v6 : Nat → Int32) (v7 : Nat → Int32) (h : P_X9_cut_L84 z3 v9 K135 n z4 v6 v7)
    (hK135 : ∀ (uv6 : Nat → Int32), ∀ (uv7 : Nat → Int32), K135 uv6 uv7 → ww x (W_X9_cut (xg x) a0 a1 a2 a3 a4 a5 a6 a7 a8 a9 a10 a11 a12 a13 v0 v1 v2 v3 v4 v5 uv6 uv7 v8 v9) [(0, .ref a0)] k0 n0 135 []) :
    ww x (W_X9_cut (xg x) a0 a1 a2 a3 a4 a5 a6 a7 a8 a9 a10 a11 a12 a13 v0 v1 v2 v3 v4 v5 v6 v7 v8 v9) [(0, .ref a0), (3, .int z3), (4, .int z4)] k0 n0 84 [] := by
  induction n generalizing z4 v6 v7 with
  | zero => exact h.elim
  | succ n ih =>
    unfold P_X9_cut_L84 at h
    refine xw_iload hf (pc := 84) dX9_cut_84 2 rfl ?_
    refine xw_bipush hf (pc := 86) dX9_cut_86 (v := 26) (by decide) ?_
    refine xw_icmp_gt hf (pc := 88) dX9_cut_88 (tgt := 135) rfl ⟨fun c => ?_, fun c => ?_⟩
    · have h := h.1 c
      refine xw_L [0] rfl ?_
      exact hK135 _ _ h
    · have h := h.2 c
      refine xw_aload_n hf (pc := 91) dX9_cut_91 rfl 0 rfl ?_
      refine xw_get hf (pc := 92) dX9_cut_92 (T := TX9) mi_X9_cut_X9 rfl 0 rfl 3 (by decide) rfl mw_X9_cut_0 rfl ?_
      refine xw_iload hf (pc := 95) dX9_cut_95 2 rfl ?_
      refine xw_dup2 hf (pc := 97) dX9_cut_97 rfl rfl ?_
      refine xw_iald hf (pc := 98) dX9_cut_98 1 rfl h.1 ?_
      have h := h.2
      refine xw_iload_n hf (pc := 99) dX9_cut_99 rfl 1 rfl ?_
      refine xw_aload_n hf (pc := 100) dX9_cut_100 rfl 0 rfl ?_
      refine xw_get hf (pc := 101) dX9_cut_101 (T := TX9) mi_X9_cut_X9 rfl 0 rfl 14 (by decide) rfl mw_X9_cut_1 rfl ?_
      refine xw_iload hf (pc := 104) dX9_cut_104 2 rfl ?_
      refine xw_iald hf (pc := 106) dX9_cut_106 4 rfl h.1 ?_
      have h := h.2
      refine xw_imul hf (pc := 107) dX9_cut_107 ?_
      refine xw_iadd hf (pc := 108) dX9_cut_108 ?_
      refine xw_iast hf (pc := 109) dX9_cut_109 1 rfl h.1 (W_X9_cut (xg x) a0 a1 a2 a3 a4 a5 a6 a7 a8 a9 a10 a11 a12 a13 v0 v1 v2 v3 v4 v5 (upd v6 z4.toNatClampNeg ((v6 z4.toNatClampNeg) + (z3 * (v9 z4.toNatClampNeg)))) v7 v8 v9) rfl ?_
      have h := h.2
      refine xw_aload_n hf (pc := 110) dX9_cut_110 rfl 0 rfl ?_
      refine xw_get hf (pc := 111) dX9_cut_111 (T := TX9) mi_X9_cut_X9 rfl 0 rfl 5 (by decide) rfl mw_X9_cut_2 rfl ?_
      refine xw_iload hf (pc := 114) dX9_cut_114 2 rfl ?_
      refine xw_dup2 hf (pc := 116) dX9_cut_116 rfl rfl ?_
      refine xw_iald hf (pc := 117) dX9_cut_117 2 rfl h.1 ?_
      have h := h.2
      refine xw_iload_n hf (pc := 118) dX9_cut_118 rfl 1 rfl ?_
      refine xw_aload_n hf (pc := 119) dX9_cut_119 rfl 0 rfl ?_
      refine xw_get hf (pc := 120) dX9_cut_120 (T := TX9) mi_X9_cut_X9 rfl 0 rfl 14 (by decide) rfl mw_X9_cut_1 rfl ?_
      refine xw_iload hf (pc := 123) dX9_cut_123 2 rfl ?_
      refine xw_iald hf (pc := 125) dX9_cut_125 4 rfl h.1 ?_
      have h := h.2
      refine xw_imul hf (pc := 126) dX9_cut_126 ?_
      refine xw_iadd hf (pc := 127) dX9_cut_127 ?_
      refine xw_iast hf (pc := 128) dX9_cut_128 2 rfl h.1 (W_X9_cut (xg x) a0 a1 a2 a3 a4 a5 a6 a7 a8 a9 a10 a11 a12 a13 v0 v1 v2 v3 v4 v5 (upd v6 z4.toNatClampNeg ((v6 z4.toNatClampNeg) + (z3 * (v9 z4.toNatClampNeg)))) (upd v7 z4.toNatClampNeg ((v7 z4.toNatClampNeg) + (z3 * (v9 z4.toNatClampNeg)))) v8 v9) rfl ?_
      have h := h.2
      refine xw_iinc hf (pc := 129) dX9_cut_129 (v := z4 + 1) 2 rfl rfl [(4, .int (z4 + 1)), (0, .ref a0), (3, .int z3)] hn (by decide) rfl ?_
      refine xw_goto hf (pc := 132) dX9_cut_132 (tgt := 84) rfl ?_
      refine xw_L [1, 2, 0] rfl ?_
      exact ih _ _ _ h
set_option maxHeartbeats 4000000 in
set_option maxRecDepth 100000 in
theorem c_X9_cut (l : Launch) (g : Gx) (a0 a1 a2 a3 a4 a5 a6 a7 a8 a9 a10 a11 a12 a13 : Nat) (v0 : Int32) (v1 : Int32) (v2 : Int32) (v3 : Int32) (v4 : Int32) (v5 : Int32) (v6 : Nat → Int32) (v7 : Nat → Int32) (v8 : Nat → Int32) (v9 : Nat → Int32) (p1 : Int64) (p3 : Int32) {post : Int32 → Int32 → Int32 → (Nat → Int32) → (Nat → Int32) → (Nat → Int32) → (Nat → Int32) → Prop} (h : P_X9_cut post p1 p3 v0 v1 v2 v3 v4 v5 v6 v7 v8 v9) : cm l g yX9_cut wsX9_cut (rm_X9_cut) [.ref a0, .long p1, .int p3] (W_X9_cut g a0 a1 a2 a3 a4 a5 a6 a7 a8 a9 a10 a11 a12 a13 v0 v1 v2 v3 v4 v5 v6 v7 v8 v9) (fun v X1 => ∃ (r : Int32) (uv0 : Int32) (uv4 : Int32) (uv6 : Nat → Int32) (uv7 : Nat → Int32) (uv8 : Nat → Int32) (uv9 : Nat → Int32), v = some (.int r) ∧ X1 = W_X9_cut g a0 a1 a2 a3 a4 a5 a6 a7 a8 a9 a10 a11 a12 a13 uv0 v1 v2 v3 uv4 v5 uv6 uv7 uv8 uv9 ∧ post r uv0 uv4 uv6 uv7 uv8 uv9) := by
  refine cm_of (cc := cX9_cut) (nL := 5) (ret := (some .int)) (by decide +kernel) rfl (Nat.le_of_ble_eq_true rfl) ?_
  intro x hf hl hg hn hi hr
  subst hl
  subst hg
  show ww x (W_X9_cut (xg x) a0 a1 a2 a3 a4 a5 a6 a7 a8 a9 a10 a11 a12 a13 v0 v1 v2 v3 v4 v5 v6 v7 v8 v9) [(0, .ref a0), (1, .long p1), (3, .int p3)] 0 0 0 []
  unfold P_X9_cut at h
  refine xw_aload_n hf (pc := 0) dX9_cut_0 rfl 0 rfl ?_
  refine xw_lload_n hf (pc := 1) dX9_cut_1 rfl 1 rfl ?_
  refine xw_callS hf (pc := 2) (nA := 1) (Xr := W_X9_cut (xg x) a0 a1 a2 a3 a4 a5 a6 a7 a8 a9 a10 a11 a12 a13 v0 v1 v2 v3 v4 v5 v6 v7 v8 v9) (rest := [.ref a0]) (c_X9_isWord (xl x) (xg x) p1 h) gX9_cut_X9_isWord (by rfl) rfl (by decide +kernel) ⟨⟨(Nat.le_of_ble_eq_true rfl), (Nat.le_of_ble_eq_true rfl)⟩, (Nat.le_of_ble_eq_true rfl), (Nat.le_of_ble_eq_true rfl)⟩ (Nat.le_of_ble_eq_true rfl) (sb_rf _) rfl dX9_cut_2 (fun v X1 hp => ?_)
  obtain ⟨r1, rfl, rfl, h⟩ := hp
  show ww x (W_X9_cut (xg x) a0 a1 a2 a3 a4 a5 a6 a7 a8 a9 a10 a11 a12 a13 v0 v1 v2 v3 v4 v5 v6 v7 v8 v9) [(0, .ref a0), (1, .long p1), (3, .int p3)] 0 0 5 [.int r1, .ref a0]
  refine xw_if_eq hf (pc := 5) dX9_cut_5 (c := r1 = 0) Iff.rfl (tgt := 22) rfl ⟨fun c => ?_, fun c => ?_⟩
  · have h := h.1 c
    refine xw_iconst hf (pc := 22) dX9_cut_22 (v := 0) (by decide) ?_
    refine xw_callV hf (pc := 23) (nA := 1) (Xr := [(a1, .inl (gI (xg x), 27, .inl v6)), (a2, .inl (gI (xg x), 27, .inl v7)), (a3, .inl (gI (xg x), 12, .inl v8)), (a4, .inl (gI (xg x), 27, .inl v9))]) (rest := []) (T := TX9) (c_X9_isGood (xl x) (xg x) a0 a5 a1 a6 a2 a7 a8 a9 a10 a3 a4 a11 a12 a13 v0 v1 v2 v3 v4 v5 0 h) gX9_cut_X9_isGood (by rfl) rfl rfl (by decide +kernel) ⟨⟨(Nat.le_of_ble_eq_true rfl), (Nat.le_of_ble_eq_true rfl)⟩, (Nat.le_of_ble_eq_true rfl), (Nat.le_of_ble_eq_true rfl)⟩ (Nat.le_of_ble_eq_true rfl) rfl rfl (sb_of [0, 1, 2, 3, 4] rfl rfl) rfl dX9_cut_23 (fun v X1 hp => ?_)
    obtain ⟨r2, w3, rfl, rfl, h⟩ := hp
    refine xw_X (sb_of [0, 1, 2, 3, 4] rfl rfl) (show ww x (W_X9_cut (xg x) a0 a1 a2 a3 a4 a5 a6 a7 a8 a9 a10 a11 a12 a13 w3 v1 v2 v3 v4 v5 v6 v7 v8 v9) [(0, .ref a0), (1, .long p1), (3, .int p3)] 0 0 26 [.int r2] from ?_)
    refine xw_if_ne hf (pc := 26) dX9_cut_26 (c := r2 = 0) Iff.rfl (tgt := 31) rfl ⟨fun c => ?_, fun c => ?_⟩
    · have h := h.1 c
      refine xw_iconst hf (pc := 29) dX9_cut_29 (v := 0) (by decide) ?_
      exact xw_iret hf (pc := 30) dX9_cut_30 hr (Nat.le_of_ble_eq_true rfl) (Nat.le_of_ble_eq_true rfl) ⟨_, _, _, _, _, _, _, rfl, rfl, h⟩
    · have h := h.2 c
      refine xw_aload_n hf (pc := 31) dX9_cut_31 rfl 0 rfl ?_
      refine xw_lload_n hf (pc := 32) dX9_cut_32 rfl 1 rfl ?_
      refine xw_callV hf (pc := 33) (nA := 1) (Xr := [(a1, .inl (gI (xg x), 27, .inl v6)), (a2, .inl (gI (xg x), 27, .inl v7))]) (rest := []) (T := TX9) (c_X9_spell (xl x) (xg x) a0 a3 a4 a5 a1 a6 a2 a7 a8 a9 a10 a11 a12 a13 w3 v1 v2 v3 v4 v5 v8 v9 p1 h) gX9_cut_X9_spell (by rfl) rfl rfl (by decide +kernel) ⟨⟨(Nat.le_of_ble_eq_true rfl), (Nat.le_of_ble_eq_true rfl)⟩, (Nat.le_of_ble_eq_true rfl), (Nat.le_of_ble_eq_true rfl)⟩ (Nat.le_of_ble_eq_true rfl) rfl rfl (sb_of [0, 3, 4, 1, 2] rfl rfl) rfl dX9_cut_33 (fun v X1 hp => ?_)
      obtain ⟨w5, w6, w7, rfl, rfl, h⟩ := hp
      refine xw_X (sb_of [0, 3, 4, 1, 2] rfl rfl) (show ww x (W_X9_cut (xg x) a0 a1 a2 a3 a4 a5 a6 a7 a8 a9 a10 a11 a12 a13 w3 v1 v2 v3 w5 v5 v6 v7 w6 w7) [(0, .ref a0), (1, .long p1), (3, .int p3)] 0 0 36 [] from ?_)
      refine xw_iconst hf (pc := 36) dX9_cut_36 (v := 1) (by decide) ?_
      refine xw_istore hf (pc := 37) dX9_cut_37 [(4, .int 1), (0, .ref a0), (1, .long p1), (3, .int p3)] hn (by decide) rfl ?_
      refine xw_L [1, 3, 0] rfl ?_
      refine w_X9_cut_L39 hf hn ⟨(Nat.le_of_ble_eq_true rfl), (Nat.le_of_ble_eq_true rfl)⟩ a0 a1 a2 a3 a4 a5 a6 a7 a8 a9 a10 a11 a12 a13 p3 v6 w7 w3 v1 v2 v3 w5 v5 v7 w6 FU _ h (fun h => ?_) (fun h => ?_)
      · refine xw_aload_n hf (pc := 69) dX9_cut_69 rfl 0 rfl ?_
        refine xw_iconst hf (pc := 70) dX9_cut_70 (v := 2) (by decide) ?_
        refine xw_callV hf (pc := 71) (nA := 1) (Xr := [(a1, .inl (gI (xg x), 27, .inl v6)), (a2, .inl (gI (xg x), 27, .inl v7)), (a3, .inl (gI (xg x), 12, .inl w6)), (a4, .inl (gI (xg x), 27, .inl w7))]) (rest := []) (T := TX9) (c_X9_fail (xl x) (xg x) a0 a5 a1 a6 a2 a7 a8 a9 a10 a3 a4 a11 a12 a13 w3 v1 v2 v3 w5 v5 2 h) gX9_cut_X9_fail (by rfl) rfl rfl (by decide +kernel) ⟨⟨(Nat.le_of_ble_eq_true rfl), (Nat.le_of_ble_eq_true rfl)⟩, (Nat.le_of_ble_eq_true rfl), (Nat.le_of_ble_eq_true rfl)⟩ (Nat.le_of_ble_eq_true rfl) rfl rfl (sb_of [0, 1, 2, 3, 4] rfl rfl) rfl dX9_cut_71 (fun v X1 hp => ?_)
        obtain ⟨r8, w9, rfl, rfl, h⟩ := hp
        refine xw_X (sb_of [0, 1, 2, 3, 4] rfl rfl) (show ww x (W_X9_cut (xg x) a0 a1 a2 a3 a4 a5 a6 a7 a8 a9 a10 a11 a12 a13 w9 v1 v2 v3 w5 v5 v6 v7 w6 w7) [(0, .ref a0)] 0 0 74 [.int r8] from ?_)
        exact xw_iret hf (pc := 74) dX9_cut_74 hr (Nat.le_of_ble_eq_true rfl) (Nat.le_of_ble_eq_true rfl) ⟨_, _, _, _, _, _, _, rfl, rfl, h⟩
      · refine xw_iconst hf (pc := 81) dX9_cut_81 (v := 1) (by decide) ?_
        refine xw_istore hf (pc := 82) dX9_cut_82 [(4, .int 1), (0, .ref a0), (3, .int p3)] hn (by decide) rfl ?_
        refine xw_L [1, 2, 0] rfl ?_
        refine w_X9_cut_L84 hf hn ⟨(Nat.le_of_ble_eq_true rfl), (Nat.le_of_ble_eq_true rfl)⟩ a0 a1 a2 a3 a4 a5 a6 a7 a8 a9 a10 a11 a12 a13 p3 w7 w3 v1 v2 v3 w5 v5 w6 FU _ _ _ h (fun w10 w11 h => ?_)
        refine xw_aload_n hf (pc := 135) dX9_cut_135 rfl 0 rfl ?_
        refine xw_callV hf (pc := 136) (nA := 0) (Xr := [(a2, .inl (gI (xg x), 27, .inl w11)), (a3, .inl (gI (xg x), 12, .inl w6)), (a4, .inl (gI (xg x), 27, .inl w7))]) (rest := []) (T := TX9) (c_X9_total (xl x) (xg x) a0 a1 a5 a6 a2 a7 a8 a9 a10 a3 a4 a11 a12 a13 w3 v1 v2 v3 w5 v5 w10 h) gX9_cut_X9_total (by rfl) rfl rfl (by decide +kernel) ⟨⟨(Nat.le_of_ble_eq_true rfl), (Nat.le_of_ble_eq_true rfl)⟩, (Nat.le_of_ble_eq_true rfl), (Nat.le_of_ble_eq_true rfl)⟩ (Nat.le_of_ble_eq_true rfl) rfl rfl (sb_of [0, 1, 2, 3, 4] rfl rfl) rfl dX9_cut_136 (fun v X1 hp => ?_)
        obtain ⟨r12, rfl, rfl, h⟩ := hp
        refine xw_X (sb_of [0, 1, 2, 3, 4] rfl rfl) (show ww x (W_X9_cut (xg x) a0 a1 a2 a3 a4 a5 a6 a7 a8 a9 a10 a11 a12 a13 w3 v1 v2 v3 w5 v5 w10 w11 w6 w7) [(0, .ref a0)] 0 0 139 [.int r12] from ?_)
        exact xw_iret hf (pc := 139) dX9_cut_139 hr (Nat.le_of_ble_eq_true rfl) (Nat.le_of_ble_eq_true rfl) ⟨_, _, _, _, _, _, _, rfl, rfl, h⟩
  · have h := h.2 c
    refine xw_iload_n hf (pc := 8) dX9_cut_8 rfl 2 rfl ?_
    refine xw_iconst hf (pc := 9) dX9_cut_9 (v := 1) (by decide) ?_
    refine xw_bipush hf (pc := 10) dX9_cut_10 (v := 50) (by decide) ?_
    refine xw_callS hf (pc := 12) (nA := 3) (Xr := W_X9_cut (xg x) a0 a1 a2 a3 a4 a5 a6 a7 a8 a9 a10 a11 a12 a13 v0 v1 v2 v3 v4 v5 v6 v7 v8 v9) (rest := [.ref a0]) (c_X9_isWithin (xl x) (xg x) p3 1 50 h) gX9_cut_X9_isWithin (by rfl) rfl (by decide +kernel) ⟨⟨(Nat.le_of_ble_eq_true rfl), (Nat.le_of_ble_eq_true rfl)⟩, (Nat.le_of_ble_eq_true rfl), (Nat.le_of_ble_eq_true rfl)⟩ (Nat.le_of_ble_eq_true rfl) (sb_rf _) rfl dX9_cut_12 (fun v X1 hp => ?_)
    obtain ⟨r13, rfl, rfl, h⟩ := hp
    show ww x (W_X9_cut (xg x) a0 a1 a2 a3 a4 a5 a6 a7 a8 a9 a10 a11 a12 a13 v0 v1 v2 v3 v4 v5 v6 v7 v8 v9) [(0, .ref a0), (1, .long p1), (3, .int p3)] 0 0 15 [.int r13, .ref a0]
    refine xw_if_eq hf (pc := 15) dX9_cut_15 (c := r13 = 0) Iff.rfl (tgt := 22) rfl ⟨fun c => ?_, fun c => ?_⟩
    · have h := h.1 c
      refine xw_iconst hf (pc := 22) dX9_cut_22 (v := 0) (by decide) ?_
      refine xw_callV hf (pc := 23) (nA := 1) (Xr := [(a1, .inl (gI (xg x), 27, .inl v6)), (a2, .inl (gI (xg x), 27, .inl v7)), (a3, .inl (gI (xg x), 12, .inl v8)), (a4, .inl (gI (xg x), 27, .inl v9))]) (rest := []) (T := TX9) (c_X9_isGood (xl x) (xg x) a0 a5 a1 a6 a2 a7 a8 a9 a10 a3 a4 a11 a12 a13 v0 v1 v2 v3 v4 v5 0 h) gX9_cut_X9_isGood (by rfl) rfl rfl (by decide +kernel) ⟨⟨(Nat.le_of_ble_eq_true rfl), (Nat.le_of_ble_eq_true rfl)⟩, (Nat.le_of_ble_eq_true rfl), (Nat.le_of_ble_eq_true rfl)⟩ (Nat.le_of_ble_eq_true rfl) rfl rfl (sb_of [0, 1, 2, 3, 4] rfl rfl) rfl dX9_cut_23 (fun v X1 hp => ?_)
      obtain ⟨r14, w15, rfl, rfl, h⟩ := hp
      refine xw_X (sb_of [0, 1, 2, 3, 4] rfl rfl) (show ww x (W_X9_cut (xg x) a0 a1 a2 a3 a4 a5 a6 a7 a8 a9 a10 a11 a12 a13 w15 v1 v2 v3 v4 v5 v6 v7 v8 v9) [(0, .ref a0), (1, .long p1), (3, .int p3)] 0 0 26 [.int r14] from ?_)
      refine xw_if_ne hf (pc := 26) dX9_cut_26 (c := r14 = 0) Iff.rfl (tgt := 31) rfl ⟨fun c => ?_, fun c => ?_⟩
      · have h := h.1 c
        refine xw_iconst hf (pc := 29) dX9_cut_29 (v := 0) (by decide) ?_
        exact xw_iret hf (pc := 30) dX9_cut_30 hr (Nat.le_of_ble_eq_true rfl) (Nat.le_of_ble_eq_true rfl) ⟨_, _, _, _, _, _, _, rfl, rfl, h⟩
      · have h := h.2 c
        refine xw_aload_n hf (pc := 31) dX9_cut_31 rfl 0 rfl ?_
        refine xw_lload_n hf (pc := 32) dX9_cut_32 rfl 1 rfl ?_
        refine xw_callV hf (pc := 33) (nA := 1) (Xr := [(a1, .inl (gI (xg x), 27, .inl v6)), (a2, .inl (gI (xg x), 27, .inl v7))]) (rest := []) (T := TX9) (c_X9_spell (xl x) (xg x) a0 a3 a4 a5 a1 a6 a2 a7 a8 a9 a10 a11 a12 a13 w15 v1 v2 v3 v4 v5 v8 v9 p1 h) gX9_cut_X9_spell (by rfl) rfl rfl (by decide +kernel) ⟨⟨(Nat.le_of_ble_eq_true rfl), (Nat.le_of_ble_eq_true rfl)⟩, (Nat.le_of_ble_eq_true rfl), (Nat.le_of_ble_eq_true rfl)⟩ (Nat.le_of_ble_eq_true rfl) rfl rfl (sb_of [0, 3, 4, 1, 2] rfl rfl) rfl dX9_cut_33 (fun v X1 hp => ?_)
        obtain ⟨w17, w18, w19, rfl, rfl, h⟩ := hp
        refine xw_X (sb_of [0, 3, 4, 1, 2] rfl rfl) (show ww x (W_X9_cut (xg x) a0 a1 a2 a3 a4 a5 a6 a7 a8 a9 a10 a11 a12 a13 w15 v1 v2 v3 w17 v5 v6 v7 w18 w19) [(0, .ref a0), (1, .long p1), (3, .int p3)] 0 0 36 [] from ?_)
        refine xw_iconst hf (pc := 36) dX9_cut_36 (v := 1) (by decide) ?_
        refine xw_istore hf (pc := 37) dX9_cut_37 [(4, .int 1), (0, .ref a0), (1, .long p1), (3, .int p3)] hn (by decide) rfl ?_
        refine xw_L [1, 3, 0] rfl ?_
        refine w_X9_cut_L39 hf hn ⟨(Nat.le_of_ble_eq_true rfl), (Nat.le_of_ble_eq_true rfl)⟩ a0 a1 a2 a3 a4 a5 a6 a7 a8 a9 a10 a11 a12 a13 p3 v6 w19 w15 v1 v2 v3 w17 v5 v7 w18 FU _ h (fun h => ?_) (fun h => ?_)
        · refine xw_aload_n hf (pc := 69) dX9_cut_69 rfl 0 rfl ?_
          refine xw_iconst hf (pc := 70) dX9_cut_70 (v := 2) (by decide) ?_
          refine xw_callV hf (pc := 71) (nA := 1) (Xr := [(a1, .inl (gI (xg x), 27, .inl v6)), (a2, .inl (gI (xg x), 27, .inl v7)), (a3, .inl (gI (xg x), 12, .inl w18)), (a4, .inl (gI (xg x), 27, .inl w19))]) (rest := []) (T := TX9) (c_X9_fail (xl x) (xg x) a0 a5 a1 a6 a2 a7 a8 a9 a10 a3 a4 a11 a12 a13 w15 v1 v2 v3 w17 v5 2 h) gX9_cut_X9_fail (by rfl) rfl rfl (by decide +kernel) ⟨⟨(Nat.le_of_ble_eq_true rfl), (Nat.le_of_ble_eq_true rfl)⟩, (Nat.le_of_ble_eq_true rfl), (Nat.le_of_ble_eq_true rfl)⟩ (Nat.le_of_ble_eq_true rfl) rfl rfl (sb_of [0, 1, 2, 3, 4] rfl rfl) rfl dX9_cut_71 (fun v X1 hp => ?_)
          obtain ⟨r20, w21, rfl, rfl, h⟩ := hp
          refine xw_X (sb_of [0, 1, 2, 3, 4] rfl rfl) (show ww x (W_X9_cut (xg x) a0 a1 a2 a3 a4 a5 a6 a7 a8 a9 a10 a11 a12 a13 w21 v1 v2 v3 w17 v5 v6 v7 w18 w19) [(0, .ref a0)] 0 0 74 [.int r20] from ?_)
          exact xw_iret hf (pc := 74) dX9_cut_74 hr (Nat.le_of_ble_eq_true rfl) (Nat.le_of_ble_eq_true rfl) ⟨_, _, _, _, _, _, _, rfl, rfl, h⟩
        · refine xw_iconst hf (pc := 81) dX9_cut_81 (v := 1) (by decide) ?_
          refine xw_istore hf (pc := 82) dX9_cut_82 [(4, .int 1), (0, .ref a0), (3, .int p3)] hn (by decide) rfl ?_
          refine xw_L [1, 2, 0] rfl ?_
          refine w_X9_cut_L84 hf hn ⟨(Nat.le_of_ble_eq_true rfl), (Nat.le_of_ble_eq_true rfl)⟩ a0 a1 a2 a3 a4 a5 a6 a7 a8 a9 a10 a11 a12 a13 p3 w19 w15 v1 v2 v3 w17 v5 w18 FU _ _ _ h (fun w22 w23 h => ?_)
          refine xw_aload_n hf (pc := 135) dX9_cut_135 rfl 0 rfl ?_
          refine xw_callV hf (pc := 136) (nA := 0) (Xr := [(a2, .inl (gI (xg x), 27, .inl w23)), (a3, .inl (gI (xg x), 12, .inl w18)), (a4, .inl (gI (xg x), 27, .inl w19))]) (rest := []) (T := TX9) (c_X9_total (xl x) (xg x) a0 a1 a5 a6 a2 a7 a8 a9 a10 a3 a4 a11 a12 a13 w15 v1 v2 v3 w17 v5 w22 h) gX9_cut_X9_total (by rfl) rfl rfl (by decide +kernel) ⟨⟨(Nat.le_of_ble_eq_true rfl), (Nat.le_of_ble_eq_true rfl)⟩, (Nat.le_of_ble_eq_true rfl), (Nat.le_of_ble_eq_true rfl)⟩ (Nat.le_of_ble_eq_true rfl) rfl rfl (sb_of [0, 1, 2, 3, 4] rfl rfl) rfl dX9_cut_136 (fun v X1 hp => ?_)
          obtain ⟨r24, rfl, rfl, h⟩ := hp
          refine xw_X (sb_of [0, 1, 2, 3, 4] rfl rfl) (show ww x (W_X9_cut (xg x) a0 a1 a2 a3 a4 a5 a6 a7 a8 a9 a10 a11 a12 a13 w15 v1 v2 v3 w17 v5 w22 w23 w18 w19) [(0, .ref a0)] 0 0 139 [.int r24] from ?_)
          exact xw_iret hf (pc := 139) dX9_cut_139 hr (Nat.le_of_ble_eq_true rfl) (Nat.le_of_ble_eq_true rfl) ⟨_, _, _, _, _, _, _, rfl, rfl, h⟩
    · have h := h.2 c
      refine xw_iconst hf (pc := 18) dX9_cut_18 (v := 1) (by decide) ?_
      refine xw_goto hf (pc := 19) dX9_cut_19 (tgt := 23) rfl ?_
      refine xw_callV hf (pc := 23) (nA := 1) (Xr := [(a1, .inl (gI (xg x), 27, .inl v6)), (a2, .inl (gI (xg x), 27, .inl v7)), (a3, .inl (gI (xg x), 12, .inl v8)), (a4, .inl (gI (xg x), 27, .inl v9))]) (rest := []) (T := TX9) (c_X9_isGood (xl x) (xg x) a0 a5 a1 a6 a2 a7 a8 a9 a10 a3 a4 a11 a12 a13 v0 v1 v2 v3 v4 v5 1 h) gX9_cut_X9_isGood (by rfl) rfl rfl (by decide +kernel) ⟨⟨(Nat.le_of_ble_eq_true rfl), (Nat.le_of_ble_eq_true rfl)⟩, (Nat.le_of_ble_eq_true rfl), (Nat.le_of_ble_eq_true rfl)⟩ (Nat.le_of_ble_eq_true rfl) rfl rfl (sb_of [0, 1, 2, 3, 4] rfl rfl) rfl dX9_cut_23 (fun v X1 hp => ?_)
      obtain ⟨r25, w26, rfl, rfl, h⟩ := hp
      refine xw_X (sb_of [0, 1, 2, 3, 4] rfl rfl) (show ww x (W_X9_cut (xg x) a0 a1 a2 a3 a4 a5 a6 a7 a8 a9 a10 a11 a12 a13 w26 v1 v2 v3 v4 v5 v6 v7 v8 v9) [(0, .ref a0), (1, .long p1), (3, .int p3)] 0 0 26 [.int r25] from ?_)
      refine xw_if_ne hf (pc := 26) dX9_cut_26 (c := r25 = 0) Iff.rfl (tgt := 31) rfl ⟨fun c => ?_, fun c => ?_⟩
      · have h := h.1 c
        refine xw_iconst hf (pc := 29) dX9_cut_29 (v := 0) (by decide) ?_
        exact xw_iret hf (pc := 30) dX9_cut_30 hr (Nat.le_of_ble_eq_true rfl) (Nat.le_of_ble_eq_true rfl) ⟨_, _, _, _, _, _, _, rfl, rfl, h⟩
      · have h := h.2 c
        refine xw_aload_n hf (pc := 31) dX9_cut_31 rfl 0 rfl ?_
        refine xw_lload_n hf (pc := 32) dX9_cut_32 rfl 1 rfl ?_
        refine xw_callV hf (pc := 33) (nA := 1) (Xr := [(a1, .inl (gI (xg x), 27, .inl v6)), (a2, .inl (gI (xg x), 27, .inl v7))]) (rest := []) (T := TX9) (c_X9_spell (xl x) (xg x) a0 a3 a4 a5 a1 a6 a2 a7 a8 a9 a10 a11 a12 a13 w26 v1 v2 v3 v4 v5 v8 v9 p1 h) gX9_cut_X9_spell (by rfl) rfl rfl (by decide +kernel) ⟨⟨(Nat.le_of_ble_eq_true rfl), (Nat.le_of_ble_eq_true rfl)⟩, (Nat.le_of_ble_eq_true rfl), (Nat.le_of_ble_eq_true rfl)⟩ (Nat.le_of_ble_eq_true rfl) rfl rfl (sb_of [0, 3, 4, 1, 2] rfl rfl) rfl dX9_cut_33 (fun v X1 hp => ?_)
        obtain ⟨w28, w29, w30, rfl, rfl, h⟩ := hp
        refine xw_X (sb_of [0, 3, 4, 1, 2] rfl rfl) (show ww x (W_X9_cut (xg x) a0 a1 a2 a3 a4 a5 a6 a7 a8 a9 a10 a11 a12 a13 w26 v1 v2 v3 w28 v5 v6 v7 w29 w30) [(0, .ref a0), (1, .long p1), (3, .int p3)] 0 0 36 [] from ?_)
        refine xw_iconst hf (pc := 36) dX9_cut_36 (v := 1) (by decide) ?_
        refine xw_istore hf (pc := 37) dX9_cut_37 [(4, .int 1), (0, .ref a0), (1, .long p1), (3, .int p3)] hn (by decide) rfl ?_
        refine xw_L [1, 3, 0] rfl ?_
        refine w_X9_cut_L39 hf hn ⟨(Nat.le_of_ble_eq_true rfl), (Nat.le_of_ble_eq_true rfl)⟩ a0 a1 a2 a3 a4 a5 a6 a7 a8 a9 a10 a11 a12 a13 p3 v6 w30 w26 v1 v2 v3 w28 v5 v7 w29 FU _ h (fun h => ?_) (fun h => ?_)
        · refine xw_aload_n hf (pc := 69) dX9_cut_69 rfl 0 rfl ?_
          refine xw_iconst hf (pc := 70) dX9_cut_70 (v := 2) (by decide) ?_
          refine xw_callV hf (pc := 71) (nA := 1) (Xr := [(a1, .inl (gI (xg x), 27, .inl v6)), (a2, .inl (gI (xg x), 27, .inl v7)), (a3, .inl (gI (xg x), 12, .inl w29)), (a4, .inl (gI (xg x), 27, .inl w30))]) (rest := []) (T := TX9) (c_X9_fail (xl x) (xg x) a0 a5 a1 a6 a2 a7 a8 a9 a10 a3 a4 a11 a12 a13 w26 v1 v2 v3 w28 v5 2 h) gX9_cut_X9_fail (by rfl) rfl rfl (by decide +kernel) ⟨⟨(Nat.le_of_ble_eq_true rfl), (Nat.le_of_ble_eq_true rfl)⟩, (Nat.le_of_ble_eq_true rfl), (Nat.le_of_ble_eq_true rfl)⟩ (Nat.le_of_ble_eq_true rfl) rfl rfl (sb_of [0, 1, 2, 3, 4] rfl rfl) rfl dX9_cut_71 (fun v X1 hp => ?_)
          obtain ⟨r31, w32, rfl, rfl, h⟩ := hp
          refine xw_X (sb_of [0, 1, 2, 3, 4] rfl rfl) (show ww x (W_X9_cut (xg x) a0 a1 a2 a3 a4 a5 a6 a7 a8 a9 a10 a11 a12 a13 w32 v1 v2 v3 w28 v5 v6 v7 w29 w30) [(0, .ref a0)] 0 0 74 [.int r31] from ?_)
          exact xw_iret hf (pc := 74) dX9_cut_74 hr (Nat.le_of_ble_eq_true rfl) (Nat.le_of_ble_eq_true rfl) ⟨_, _, _, _, _, _, _, rfl, rfl, h⟩
        · refine xw_iconst hf (pc := 81) dX9_cut_81 (v := 1) (by decide) ?_
          refine xw_istore hf (pc := 82) dX9_cut_82 [(4, .int 1), (0, .ref a0), (3, .int p3)] hn (by decide) rfl ?_
          refine xw_L [1, 2, 0] rfl ?_
          refine w_X9_cut_L84 hf hn ⟨(Nat.le_of_ble_eq_true rfl), (Nat.le_of_ble_eq_true rfl)⟩ a0 a1 a2 a3 a4 a5 a6 a7 a8 a9 a10 a11 a12 a13 p3 w30 w26 v1 v2 v3 w28 v5 w29 FU _ _ _ h (fun w33 w34 h => ?_)
          refine xw_aload_n hf (pc := 135) dX9_cut_135 rfl 0 rfl ?_
          refine xw_callV hf (pc := 136) (nA := 0) (Xr := [(a2, .inl (gI (xg x), 27, .inl w34)), (a3, .inl (gI (xg x), 12, .inl w29)), (a4, .inl (gI (xg x), 27, .inl w30))]) (rest := []) (T := TX9) (c_X9_total (xl x) (xg x) a0 a1 a5 a6 a2 a7 a8 a9 a10 a3 a4 a11 a12 a13 w26 v1 v2 v3 w28 v5 w33 h) gX9_cut_X9_total (by rfl) rfl rfl (by decide +kernel) ⟨⟨(Nat.le_of_ble_eq_true rfl), (Nat.le_of_ble_eq_true rfl)⟩, (Nat.le_of_ble_eq_true rfl), (Nat.le_of_ble_eq_true rfl)⟩ (Nat.le_of_ble_eq_true rfl) rfl rfl (sb_of [0, 1, 2, 3, 4] rfl rfl) rfl dX9_cut_136 (fun v X1 hp => ?_)
          obtain ⟨r35, rfl, rfl, h⟩ := hp
          refine xw_X (sb_of [0, 1, 2, 3, 4] rfl rfl) (show ww x (W_X9_cut (xg x) a0 a1 a2 a3 a4 a5 a6 a7 a8 a9 a10 a11 a12 a13 w26 v1 v2 v3 w28 v5 w33 w34 w29 w30) [(0, .ref a0)] 0 0 139 [.int r35] from ?_)
          exact xw_iret hf (pc := 139) dX9_cut_139 hr (Nat.le_of_ble_eq_true rfl) (Nat.le_of_ble_eq_true rfl) ⟨_, _, _, _, _, _, _, rfl, rfl, h⟩
abbrev W_X9_ofLetter (g : Gx) (a0 a1 a2 a3 a4 a5 a6 a7 a8 a9 a10 a11 a12 a13 a14 : Nat) (v0 : Int32) (v1 : Int32) (v2 : Int32) (v3 : Int32) (v4 : Int32) (v5 : Int32) (v6 : Nat → Int32) : va_W := [(a0, .inr (9, [.int v0, .ref a2, .int v1, .ref a3, .ref a4, .ref a5, .ref a6, .ref a7, .ref a8, .ref a9, .int v2, .int v3, .ref a10, .int v4, .ref a11, .ref a12, .ref a13, .ref a14, .int v5])), (a1, .inl (gI g, 27, .inl v6))]
abbrev rm_X9_ofLetter : Room := { frames := 1, cells := 0, slots := 0, locals := 22 }
set_option maxHeartbeats 4000000 in
set_option maxRecDepth 100000 in
theorem c_X9_ofLetter (l : Launch) (g : Gx) (a0 a1 a2 a3 a4 a5 a6 a7 a8 a9 a10 a11 a12 a13 a14 : Nat) (v0 : Int32) (v1 : Int32) (v2 : Int32) (v3 : Int32) (v4 : Int32) (v5 : Int32) (v6 : Nat → Int32) (p2 : Int32) {post : Int32 → Int32 → Prop} (h : P_X9_ofLetter post p2 v0 v1 v2 v3 v4 v5 v6) : cm l g yX9_ofLetter wsX9_ofLetter (rm_X9_ofLetter) [.ref a0, .ref a1, .int p2] (W_X9_ofLetter g a0 a1 a2 a3 a4 a5 a6 a7 a8 a9 a10 a11 a12 a13 a14 v0 v1 v2 v3 v4 v5 v6) (fun v X1 => ∃ (r : Int32) (uv0 : Int32), v = some (.int r) ∧ X1 = W_X9_ofLetter g a0 a1 a2 a3 a4 a5 a6 a7 a8 a9 a10 a11 a12 a13 a14 uv0 v1 v2 v3 v4 v5 v6 ∧ post r uv0) := by
  refine cm_of (cc := cX9_ofLetter) (nL := 3) (ret := (some .int)) (by decide +kernel) rfl (Nat.le_of_ble_eq_true rfl) ?_
  intro x hf hl hg hn hi hr
  subst hl
  subst hg
  show ww x (W_X9_ofLetter (xg x) a0 a1 a2 a3 a4 a5 a6 a7 a8 a9 a10 a11 a12 a13 a14 v0 v1 v2 v3 v4 v5 v6) [(0, .ref a0), (1, .ref a1), (2, .int p2)] 0 0 0 []
  unfold P_X9_ofLetter at h
  refine xw_aload_n hf (pc := 0) dX9_ofLetter_0 rfl 0 rfl ?_
  refine xw_iload_n hf (pc := 1) dX9_ofLetter_1 rfl 2 rfl ?_
  refine xw_iconst hf (pc := 2) dX9_ofLetter_2 (v := 1) (by decide) ?_
  refine xw_bipush hf (pc := 3) dX9_ofLetter_3 (v := 26) (by decide) ?_
  refine xw_callS hf (pc := 5) (nA := 3) (Xr := W_X9_ofLetter (xg x) a0 a1 a2 a3 a4 a5 a6 a7 a8 a9 a10 a11 a12 a13 a14 v0 v1 v2 v3 v4 v5 v6) (rest := [.ref a0]) (c_X9_isWithin (xl x) (xg x) p2 1 26 h) gX9_ofLetter_X9_isWithin (by rfl) rfl (by decide +kernel) ⟨⟨(Nat.le_of_ble_eq_true rfl), (Nat.le_of_ble_eq_true rfl)⟩, (Nat.le_of_ble_eq_true rfl), (Nat.le_of_ble_eq_true rfl)⟩ (Nat.le_of_ble_eq_true rfl) (sb_rf _) rfl dX9_ofLetter_5 (fun v X1 hp => ?_)
  obtain ⟨r1, rfl, rfl, h⟩ := hp
  show ww x (W_X9_ofLetter (xg x) a0 a1 a2 a3 a4 a5 a6 a7 a8 a9 a10 a11 a12 a13 a14 v0 v1 v2 v3 v4 v5 v6) [(0, .ref a0), (1, .ref a1), (2, .int p2)] 0 0 8 [.int r1, .ref a0]
  refine xw_callV hf (pc := 8) (nA := 1) (Xr := [(a1, .inl (gI (xg x), 27, .inl v6))]) (rest := []) (T := TX9) (c_X9_isGood (xl x) (xg x) a0 a2 a3 a4 a5 a6 a7 a8 a9 a10 a11 a12 a13 a14 v0 v1 v2 v3 v4 v5 r1 h) gX9_ofLetter_X9_isGood (by rfl) rfl rfl (by decide +kernel) ⟨⟨(Nat.le_of_ble_eq_true rfl), (Nat.le_of_ble_eq_true rfl)⟩, (Nat.le_of_ble_eq_true rfl), (Nat.le_of_ble_eq_true rfl)⟩ (Nat.le_of_ble_eq_true rfl) rfl rfl (sb_of [0, 1] rfl rfl) rfl dX9_ofLetter_8 (fun v X1 hp => ?_)
  obtain ⟨r2, w3, rfl, rfl, h⟩ := hp
  refine xw_X (sb_of [0, 1] rfl rfl) (show ww x (W_X9_ofLetter (xg x) a0 a1 a2 a3 a4 a5 a6 a7 a8 a9 a10 a11 a12 a13 a14 w3 v1 v2 v3 v4 v5 v6) [(0, .ref a0), (1, .ref a1), (2, .int p2)] 0 0 11 [.int r2] from ?_)
  refine xw_if_eq hf (pc := 11) dX9_ofLetter_11 (c := r2 = 0) Iff.rfl (tgt := 20) rfl ⟨fun c => ?_, fun c => ?_⟩
  · have h := h.1 c
    refine xw_iconst hf (pc := 20) dX9_ofLetter_20 (v := 0) (by decide) ?_
    exact xw_iret hf (pc := 21) dX9_ofLetter_21 hr (Nat.le_of_ble_eq_true rfl) (Nat.le_of_ble_eq_true rfl) ⟨_, _, rfl, rfl, h⟩
  · have h := h.2 c
    refine xw_aload_n hf (pc := 14) dX9_ofLetter_14 rfl 1 rfl ?_
    refine xw_iload_n hf (pc := 15) dX9_ofLetter_15 rfl 2 rfl ?_
    refine xw_iald hf (pc := 16) dX9_ofLetter_16 1 rfl h.1 ?_
    have h := h.2
    refine xw_goto hf (pc := 17) dX9_ofLetter_17 (tgt := 21) rfl ?_
    exact xw_iret hf (pc := 21) dX9_ofLetter_21 hr (Nat.le_of_ble_eq_true rfl) (Nat.le_of_ble_eq_true rfl) ⟨_, _, rfl, rfl, h⟩
abbrev W_X9_stockOf (g : Gx) (a0 a1 a2 a3 a4 a5 a6 a7 a8 a9 a10 a11 a12 a13 : Nat) (v0 : Int32) (v1 : Int32) (v2 : Int32) (v3 : Int32) (v4 : Int32) (v5 : Int32) (v6 : Nat → Int32) : va_W := [(a0, .inr (9, [.int v0, .ref a2, .int v1, .ref a1, .ref a3, .ref a4, .ref a5, .ref a6, .ref a7, .ref a8, .int v2, .int v3, .ref a9, .int v4, .ref a10, .ref a11, .ref a12, .ref a13, .int v5])), (a1, .inl (gI g, 27, .inl v6))]
abbrev rm_X9_stockOf : Room := { frames := 2, cells := 0, slots := 0, locals := 44 }
theorem mw_X9_stockOf_0 : (Cond.fieldLink RX9 13 "AnagramButcherModel" "stock" "[I" : Cond) ∈ wsX9_stockOf := (List.mem_cons_of_mem _ (List.mem_append_left _ (List.mem_of_getElem? (i := 0) rfl)))
theorem mi_X9_stockOf_X9 : ∀ w ∈ wsX90, w ∈ wsX9_stockOf := fun _ h => (List.mem_cons_of_mem _ (List.mem_append_right _ h))
set_option maxHeartbeats 4000000 in
set_option maxRecDepth 100000 in
theorem c_X9_stockOf (l : Launch) (g : Gx) (a0 a1 a2 a3 a4 a5 a6 a7 a8 a9 a10 a11 a12 a13 : Nat) (v0 : Int32) (v1 : Int32) (v2 : Int32) (v3 : Int32) (v4 : Int32) (v5 : Int32) (v6 : Nat → Int32) (p1 : Int32) {post : Int32 → Int32 → Prop} (h : P_X9_stockOf post p1 v0 v1 v2 v3 v4 v5 v6) : cm l g yX9_stockOf wsX9_stockOf (rm_X9_stockOf) [.ref a0, .int p1] (W_X9_stockOf g a0 a1 a2 a3 a4 a5 a6 a7 a8 a9 a10 a11 a12 a13 v0 v1 v2 v3 v4 v5 v6) (fun v X1 => ∃ (r : Int32) (uv0 : Int32), v = some (.int r) ∧ X1 = W_X9_stockOf g a0 a1 a2 a3 a4 a5 a6 a7 a8 a9 a10 a11 a12 a13 uv0 v1 v2 v3 v4 v5 v6 ∧ post r uv0) := by
  refine cm_of (cc := cX9_stockOf) (nL := 2) (ret := (some .int)) (by decide +kernel) rfl (Nat.le_of_ble_eq_true rfl) ?_
  intro x hf hl hg hn hi hr
  subst hl
  subst hg
  show ww x (W_X9_stockOf (xg x) a0 a1 a2 a3 a4 a5 a6 a7 a8 a9 a10 a11 a12 a13 v0 v1 v2 v3 v4 v5 v6) [(0, .ref a0), (1, .int p1)] 0 0 0 []
  unfold P_X9_stockOf at h
  refine xw_aload_n hf (pc := 0) dX9_stockOf_0 rfl 0 rfl ?_
  refine xw_aload_n hf (pc := 1) dX9_stockOf_1 rfl 0 rfl ?_
  refine xw_get hf (pc := 2) dX9_stockOf_2 (T := TX9) mi_X9_stockOf_X9 rfl 0 rfl 3 (by decide) rfl mw_X9_stockOf_0 rfl ?_
  refine xw_iload_n hf (pc := 5) dX9_stockOf_5 rfl 1 rfl ?_
  refine xw_callV hf (pc := 6) (nA := 2) (Xr := []) (rest := []) (T := TX9) (c_X9_ofLetter (xl x) (xg x) a0 a1 a2 a1 a3 a4 a5 a6 a7 a8 a9 a10 a11 a12 a13 v0 v1 v2 v3 v4 v5 v6 p1 h) gX9_stockOf_X9_ofLetter (by rfl) rfl rfl (by decide +kernel) ⟨⟨(Nat.le_of_ble_eq_true rfl), (Nat.le_of_ble_eq_true rfl)⟩, (Nat.le_of_ble_eq_true rfl), (Nat.le_of_ble_eq_true rfl)⟩ (Nat.le_of_ble_eq_true rfl) rfl rfl (sb_of [0, 1] rfl rfl) rfl dX9_stockOf_6 (fun v X1 hp => ?_)
  obtain ⟨r1, w2, rfl, rfl, h⟩ := hp
  refine xw_X (sb_of [0, 1] rfl rfl) (show ww x (W_X9_stockOf (xg x) a0 a1 a2 a3 a4 a5 a6 a7 a8 a9 a10 a11 a12 a13 w2 v1 v2 v3 v4 v5 v6) [(0, .ref a0), (1, .int p1)] 0 0 9 [.int r1] from ?_)
  exact xw_iret hf (pc := 9) dX9_stockOf_9 hr (Nat.le_of_ble_eq_true rfl) (Nat.le_of_ble_eq_true rfl) ⟨_, _, rfl, rfl, h⟩
abbrev W_X9_totalStock (g : Gx) (a0 a1 a2 a3 a4 a5 a6 a7 a8 a9 a10 a11 a12 a13 : Nat) (v0 : Int32) (v1 : Int32) (v2 : Int32) (v3 : Int32) (v4 : Int32) (v5 : Int32) (v6 : Nat → Int32) : va_W := [(a0, .inr (9, [.int v0, .ref a2, .int v1, .ref a1, .ref a3, .ref a4, .ref a5, .ref a6, .ref a7, .ref a8, .int v2, .int v3, .ref a9, .int v4, .ref a10, .ref a11, .ref a12, .ref a13, .int v5])), (a1, .inl (gI g, 27, .inl v6))]
abbrev rm_X9_totalStock : Room := { frames := 1, cells := 0, slots := 0, locals := 22 }
theorem mw_X9_totalStock_0 : (Cond.fieldLink RX9 55 "AnagramButcherModel" "thrown" "I" : Cond) ∈ wsX9_totalStock := (List.mem_cons_of_mem _ (List.mem_append_left _ (List.mem_of_getElem? (i := 0) rfl)))
theorem mi_X9_totalStock_X9 : ∀ w ∈ wsX90, w ∈ wsX9_totalStock := fun _ h => (List.mem_cons_of_mem _ (List.mem_append_right _ h))
set_option maxHeartbeats 4000000 in
set_option maxRecDepth 100000 in
theorem c_X9_totalStock (l : Launch) (g : Gx) (a0 a1 a2 a3 a4 a5 a6 a7 a8 a9 a10 a11 a12 a13 : Nat) (v0 : Int32) (v1 : Int32) (v2 : Int32) (v3 : Int32) (v4 : Int32) (v5 : Int32) (v6 : Nat → Int32) {post : Int32 → Int32 → Prop} (h : P_X9_totalStock post v0 v1 v2 v3 v4 v5 v6) : cm l g yX9_totalStock wsX9_totalStock (rm_X9_totalStock) [.ref a0] (W_X9_totalStock g a0 a1 a2 a3 a4 a5 a6 a7 a8 a9 a10 a11 a12 a13 v0 v1 v2 v3 v4 v5 v6) (fun v X1 => ∃ (r : Int32) (uv0 : Int32), v = some (.int r) ∧ X1 = W_X9_totalStock g a0 a1 a2 a3 a4 a5 a6 a7 a8 a9 a10 a11 a12 a13 uv0 v1 v2 v3 v4 v5 v6 ∧ post r uv0) := by
  refine cm_of (cc := cX9_totalStock) (nL := 1) (ret := (some .int)) (by decide +kernel) rfl (Nat.le_of_ble_eq_true rfl) ?_
  intro x hf hl hg hn hi hr
  subst hl
  subst hg
  show ww x (W_X9_totalStock (xg x) a0 a1 a2 a3 a4 a5 a6 a7 a8 a9 a10 a11 a12 a13 v0 v1 v2 v3 v4 v5 v6) [(0, .ref a0)] 0 0 0 []
  unfold P_X9_totalStock at h
  refine xw_aload_n hf (pc := 0) dX9_totalStock_0 rfl 0 rfl ?_
  refine xw_iconst hf (pc := 1) dX9_totalStock_1 (v := 0) (by decide) ?_
  refine xw_put hf (pc := 2) dX9_totalStock_2 (T := TX9) mi_X9_totalStock_X9 rfl tyX9_ok nmX9 0 rfl 0 (by decide) rfl mw_X9_totalStock_0 rfl rfl rfl rfl (Nat.le_of_ble_eq_true rfl) (W_X9_totalStock (xg x) a0 a1 a2 a3 a4 a5 a6 a7 a8 a9 a10 a11 a12 a13 0 v1 v2 v3 v4 v5 v6) rfl ?_
  refine xw_aload_n hf (pc := 5) dX9_totalStock_5 rfl 0 rfl ?_
  refine xw_callV hf (pc := 6) (nA := 0) (Xr := []) (rest := []) (T := TX9) (c_X9_total (xl x) (xg x) a0 a1 a2 a3 a4 a5 a6 a7 a8 a9 a10 a11 a12 a13 0 v1 v2 v3 v4 v5 v6 h) gX9_totalStock_X9_total (by rfl) rfl rfl (by decide +kernel) ⟨⟨(Nat.le_of_ble_eq_true rfl), (Nat.le_of_ble_eq_true rfl)⟩, (Nat.le_of_ble_eq_true rfl), (Nat.le_of_ble_eq_true rfl)⟩ (Nat.le_of_ble_eq_true rfl) rfl rfl (sb_of [0, 1] rfl rfl) rfl dX9_totalStock_6 (fun v X1 hp => ?_)
  obtain ⟨r1, rfl, rfl, h⟩ := hp
  refine xw_X (sb_of [0, 1] rfl rfl) (show ww x (W_X9_totalStock (xg x) a0 a1 a2 a3 a4 a5 a6 a7 a8 a9 a10 a11 a12 a13 0 v1 v2 v3 v4 v5 v6) [(0, .ref a0)] 0 0 9 [.int r1] from ?_)
  exact xw_iret hf (pc := 9) dX9_totalStock_9 hr (Nat.le_of_ble_eq_true rfl) (Nat.le_of_ble_eq_true rfl) ⟨_, _, rfl, rfl, h⟩
abbrev W_X9_setBasePrice (g : Gx) (a0 a1 a2 a3 a4 a5 a6 a7 a8 a9 a10 a11 a12 a13 : Nat) (v0 : Int32) (v1 : Int32) (v2 : Int32) (v3 : Int32) (v4 : Int32) (v5 : Int32) (v6 : Nat → Int32) : va_W := [(a0, .inr (9, [.int v0, .ref a2, .int v1, .ref a3, .ref a1, .ref a4, .ref a5, .ref a6, .ref a7, .ref a8, .int v2, .int v3, .ref a9, .int v4, .ref a10, .ref a11, .ref a12, .ref a13, .int v5])), (a1, .inl (gI g, 27, .inl v6))]
abbrev rm_X9_setBasePrice : Room := { frames := 1, cells := 0, slots := 0, locals := 22 }
theorem mw_X9_setBasePrice_0 : (Cond.fieldLink RX9 17 "AnagramButcherModel" "base" "[I" : Cond) ∈ wsX9_setBasePrice := (List.mem_cons_of_mem _ (List.mem_append_left _ (List.mem_of_getElem? (i := 0) rfl)))
theorem mi_X9_setBasePrice_X9 : ∀ w ∈ wsX90, w ∈ wsX9_setBasePrice := fun _ h => (List.mem_cons_of_mem _ (List.mem_append_right _ h))
set_option maxHeartbeats 4000000 in
set_option maxRecDepth 100000 in
theorem c_X9_setBasePrice (l : Launch) (g : Gx) (a0 a1 a2 a3 a4 a5 a6 a7 a8 a9 a10 a11 a12 a13 : Nat) (v0 : Int32) (v1 : Int32) (v2 : Int32) (v3 : Int32) (v4 : Int32) (v5 : Int32) (v6 : Nat → Int32) (p1 : Int32) (p2 : Int32) {post : Int32 → Int32 → (Nat → Int32) → Prop} (h : P_X9_setBasePrice post p1 p2 v0 v1 v2 v3 v4 v5 v6) : cm l g yX9_setBasePrice wsX9_setBasePrice (rm_X9_setBasePrice) [.ref a0, .int p1, .int p2] (W_X9_setBasePrice g a0 a1 a2 a3 a4 a5 a6 a7 a8 a9 a10 a11 a12 a13 v0 v1 v2 v3 v4 v5 v6) (fun v X1 => ∃ (r : Int32) (uv0 : Int32) (uv6 : Nat → Int32), v = some (.int r) ∧ X1 = W_X9_setBasePrice g a0 a1 a2 a3 a4 a5 a6 a7 a8 a9 a10 a11 a12 a13 uv0 v1 v2 v3 v4 v5 uv6 ∧ post r uv0 uv6) := by
  refine cm_of (cc := cX9_setBasePrice) (nL := 4) (ret := (some .int)) (by decide +kernel) rfl (Nat.le_of_ble_eq_true rfl) ?_
  intro x hf hl hg hn hi hr
  subst hl
  subst hg
  show ww x (W_X9_setBasePrice (xg x) a0 a1 a2 a3 a4 a5 a6 a7 a8 a9 a10 a11 a12 a13 v0 v1 v2 v3 v4 v5 v6) [(0, .ref a0), (1, .int p1), (2, .int p2)] 0 0 0 []
  unfold P_X9_setBasePrice at h
  refine xw_aload_n hf (pc := 0) dX9_setBasePrice_0 rfl 0 rfl ?_
  refine xw_iload_n hf (pc := 1) dX9_setBasePrice_1 rfl 1 rfl ?_
  refine xw_iconst hf (pc := 2) dX9_setBasePrice_2 (v := 1) (by decide) ?_
  refine xw_bipush hf (pc := 3) dX9_setBasePrice_3 (v := 26) (by decide) ?_
  refine xw_callS hf (pc := 5) (nA := 3) (Xr := W_X9_setBasePrice (xg x) a0 a1 a2 a3 a4 a5 a6 a7 a8 a9 a10 a11 a12 a13 v0 v1 v2 v3 v4 v5 v6) (rest := [.ref a0]) (c_X9_isWithin (xl x) (xg x) p1 1 26 h) gX9_setBasePrice_X9_isWithin (by rfl) rfl (by decide +kernel) ⟨⟨(Nat.le_of_ble_eq_true rfl), (Nat.le_of_ble_eq_true rfl)⟩, (Nat.le_of_ble_eq_true rfl), (Nat.le_of_ble_eq_true rfl)⟩ (Nat.le_of_ble_eq_true rfl) (sb_rf _) rfl dX9_setBasePrice_5 (fun v X1 hp => ?_)
  obtain ⟨r1, rfl, rfl, h⟩ := hp
  show ww x (W_X9_setBasePrice (xg x) a0 a1 a2 a3 a4 a5 a6 a7 a8 a9 a10 a11 a12 a13 v0 v1 v2 v3 v4 v5 v6) [(0, .ref a0), (1, .int p1), (2, .int p2)] 0 0 8 [.int r1, .ref a0]
  refine xw_if_eq hf (pc := 8) dX9_setBasePrice_8 (c := r1 = 0) Iff.rfl (tgt := 26) rfl ⟨fun c => ?_, fun c => ?_⟩
  · have h := h.1 c
    refine xw_iconst hf (pc := 26) dX9_setBasePrice_26 (v := 0) (by decide) ?_
    refine xw_callV hf (pc := 27) (nA := 1) (Xr := [(a1, .inl (gI (xg x), 27, .inl v6))]) (rest := []) (T := TX9) (c_X9_isGood (xl x) (xg x) a0 a2 a3 a1 a4 a5 a6 a7 a8 a9 a10 a11 a12 a13 v0 v1 v2 v3 v4 v5 0 h) gX9_setBasePrice_X9_isGood (by rfl) rfl rfl (by decide +kernel) ⟨⟨(Nat.le_of_ble_eq_true rfl), (Nat.le_of_ble_eq_true rfl)⟩, (Nat.le_of_ble_eq_true rfl), (Nat.le_of_ble_eq_true rfl)⟩ (Nat.le_of_ble_eq_true rfl) rfl rfl (sb_of [0, 1] rfl rfl) rfl dX9_setBasePrice_27 (fun v X1 hp => ?_)
    obtain ⟨r2, w3, rfl, rfl, h⟩ := hp
    refine xw_X (sb_of [0, 1] rfl rfl) (show ww x (W_X9_setBasePrice (xg x) a0 a1 a2 a3 a4 a5 a6 a7 a8 a9 a10 a11 a12 a13 w3 v1 v2 v3 v4 v5 v6) [(0, .ref a0), (1, .int p1), (2, .int p2)] 0 0 30 [.int r2] from ?_)
    refine xw_if_ne hf (pc := 30) dX9_setBasePrice_30 (c := r2 = 0) Iff.rfl (tgt := 35) rfl ⟨fun c => ?_, fun c => ?_⟩
    · have h := h.1 c
      refine xw_iconst hf (pc := 33) dX9_setBasePrice_33 (v := 0) (by decide) ?_
      exact xw_iret hf (pc := 34) dX9_setBasePrice_34 hr (Nat.le_of_ble_eq_true rfl) (Nat.le_of_ble_eq_true rfl) ⟨_, _, _, rfl, rfl, h⟩
    · have h := h.2 c
      refine xw_aload_n hf (pc := 35) dX9_setBasePrice_35 rfl 0 rfl ?_
      refine xw_get hf (pc := 36) dX9_setBasePrice_36 (T := TX9) mi_X9_setBasePrice_X9 rfl 0 rfl 4 (by decide) rfl mw_X9_setBasePrice_0 rfl ?_
      refine xw_iload_n hf (pc := 39) dX9_setBasePrice_39 rfl 1 rfl ?_
      refine xw_iald hf (pc := 40) dX9_setBasePrice_40 1 rfl h.1 ?_
      have h := h.2
      refine xw_topi (fun y4 ey4 => ?_)
      have h := h y4 ey4
      refine xw_istore_n hf (pc := 41) dX9_setBasePrice_41 rfl [(3, .int y4), (0, .ref a0), (1, .int p1), (2, .int p2)] hn (by decide) rfl ?_
      refine xw_aload_n hf (pc := 42) dX9_setBasePrice_42 rfl 1 rfl ?_
      refine xw_get hf (pc := 43) dX9_setBasePrice_43 (T := TX9) mi_X9_setBasePrice_X9 rfl 0 rfl 4 (by decide) rfl mw_X9_setBasePrice_0 rfl ?_
      refine xw_iload_n hf (pc := 46) dX9_setBasePrice_46 rfl 2 rfl ?_
      refine xw_iload_n hf (pc := 47) dX9_setBasePrice_47 rfl 3 rfl ?_
      refine xw_iast hf (pc := 48) dX9_setBasePrice_48 1 rfl h.1 (W_X9_setBasePrice (xg x) a0 a1 a2 a3 a4 a5 a6 a7 a8 a9 a10 a11 a12 a13 w3 v1 v2 v3 v4 v5 (upd v6 p1.toNatClampNeg p2)) rfl ?_
      have h := h.2
      refine xw_iload_n hf (pc := 49) dX9_setBasePrice_49 rfl 0 rfl ?_
      exact xw_iret hf (pc := 50) dX9_setBasePrice_50 hr (Nat.le_of_ble_eq_true rfl) (Nat.le_of_ble_eq_true rfl) ⟨_, _, _, rfl, rfl, h⟩
  · have h := h.2 c
    refine xw_iload_n hf (pc := 11) dX9_setBasePrice_11 rfl 2 rfl ?_
    refine xw_iconst hf (pc := 12) dX9_setBasePrice_12 (v := 1) (by decide) ?_
    refine xw_sipush hf (pc := 13) dX9_setBasePrice_13 (v := 999) (by decide) ?_
    refine xw_callS hf (pc := 16) (nA := 3) (Xr := W_X9_setBasePrice (xg x) a0 a1 a2 a3 a4 a5 a6 a7 a8 a9 a10 a11 a12 a13 v0 v1 v2 v3 v4 v5 v6) (rest := [.ref a0]) (c_X9_isWithin (xl x) (xg x) p2 1 999 h) gX9_setBasePrice_X9_isWithin (by rfl) rfl (by decide +kernel) ⟨⟨(Nat.le_of_ble_eq_true rfl), (Nat.le_of_ble_eq_true rfl)⟩, (Nat.le_of_ble_eq_true rfl), (Nat.le_of_ble_eq_true rfl)⟩ (Nat.le_of_ble_eq_true rfl) (sb_rf _) rfl dX9_setBasePrice_16 (fun v X1 hp => ?_)
    obtain ⟨r5, rfl, rfl, h⟩ := hp
    show ww x (W_X9_setBasePrice (xg x) a0 a1 a2 a3 a4 a5 a6 a7 a8 a9 a10 a11 a12 a13 v0 v1 v2 v3 v4 v5 v6) [(0, .ref a0), (1, .int p1), (2, .int p2)] 0 0 19 [.int r5, .ref a0]
    refine xw_if_eq hf (pc := 19) dX9_setBasePrice_19 (c := r5 = 0) Iff.rfl (tgt := 26) rfl ⟨fun c => ?_, fun c => ?_⟩
    · have h := h.1 c
      refine xw_iconst hf (pc := 26) dX9_setBasePrice_26 (v := 0) (by decide) ?_
      refine xw_callV hf (pc := 27) (nA := 1) (Xr := [(a1, .inl (gI (xg x), 27, .inl v6))]) (rest := []) (T := TX9) (c_X9_isGood (xl x) (xg x) a0 a2 a3 a1 a4 a5 a6 a7 a8 a9 a10 a11 a12 a13 v0 v1 v2 v3 v4 v5 0 h) gX9_setBasePrice_X9_isGood (by rfl) rfl rfl (by decide +kernel) ⟨⟨(Nat.le_of_ble_eq_true rfl), (Nat.le_of_ble_eq_true rfl)⟩, (Nat.le_of_ble_eq_true rfl), (Nat.le_of_ble_eq_true rfl)⟩ (Nat.le_of_ble_eq_true rfl) rfl rfl (sb_of [0, 1] rfl rfl) rfl dX9_setBasePrice_27 (fun v X1 hp => ?_)
      obtain ⟨r6, w7, rfl, rfl, h⟩ := hp
      refine xw_X (sb_of [0, 1] rfl rfl) (show ww x (W_X9_setBasePrice (xg x) a0 a1 a2 a3 a4 a5 a6 a7 a8 a9 a10 a11 a12 a13 w7 v1 v2 v3 v4 v5 v6) [(0, .ref a0), (1, .int p1), (2, .int p2)] 0 0 30 [.int r6] from ?_)
      refine xw_if_ne hf (pc := 30) dX9_setBasePrice_30 (c := r6 = 0) Iff.rfl (tgt := 35) rfl ⟨fun c => ?_, fun c => ?_⟩
      · have h := h.1 c
        refine xw_iconst hf (pc := 33) dX9_setBasePrice_33 (v := 0) (by decide) ?_
        exact xw_iret hf (pc := 34) dX9_setBasePrice_34 hr (Nat.le_of_ble_eq_true rfl) (Nat.le_of_ble_eq_true rfl) ⟨_, _, _, rfl, rfl, h⟩
      · have h := h.2 c
        refine xw_aload_n hf (pc := 35) dX9_setBasePrice_35 rfl 0 rfl ?_
        refine xw_get hf (pc := 36) dX9_setBasePrice_36 (T := TX9) mi_X9_setBasePrice_X9 rfl 0 rfl 4 (by decide) rfl mw_X9_setBasePrice_0 rfl ?_
        refine xw_iload_n hf (pc := 39) dX9_setBasePrice_39 rfl 1 rfl ?_
        refine xw_iald hf (pc := 40) dX9_setBasePrice_40 1 rfl h.1 ?_
        have h := h.2
        refine xw_topi (fun y8 ey8 => ?_)
        have h := h y8 ey8
        refine xw_istore_n hf (pc := 41) dX9_setBasePrice_41 rfl [(3, .int y8), (0, .ref a0), (1, .int p1), (2, .int p2)] hn (by decide) rfl ?_
        refine xw_aload_n hf (pc := 42) dX9_setBasePrice_42 rfl 1 rfl ?_
        refine xw_get hf (pc := 43) dX9_setBasePrice_43 (T := TX9) mi_X9_setBasePrice_X9 rfl 0 rfl 4 (by decide) rfl mw_X9_setBasePrice_0 rfl ?_
        refine xw_iload_n hf (pc := 46) dX9_setBasePrice_46 rfl 2 rfl ?_
        refine xw_iload_n hf (pc := 47) dX9_setBasePrice_47 rfl 3 rfl ?_
        refine xw_iast hf (pc := 48) dX9_setBasePrice_48 1 rfl h.1 (W_X9_setBasePrice (xg x) a0 a1 a2 a3 a4 a5 a6 a7 a8 a9 a10 a11 a12 a13 w7 v1 v2 v3 v4 v5 (upd v6 p1.toNatClampNeg p2)) rfl ?_
        have h := h.2
        refine xw_iload_n hf (pc := 49) dX9_setBasePrice_49 rfl 0 rfl ?_
        exact xw_iret hf (pc := 50) dX9_setBasePrice_50 hr (Nat.le_of_ble_eq_true rfl) (Nat.le_of_ble_eq_true rfl) ⟨_, _, _, rfl, rfl, h⟩
    · have h := h.2 c
      refine xw_iconst hf (pc := 22) dX9_setBasePrice_22 (v := 1) (by decide) ?_
      refine xw_goto hf (pc := 23) dX9_setBasePrice_23 (tgt := 27) rfl ?_
      refine xw_callV hf (pc := 27) (nA := 1) (Xr := [(a1, .inl (gI (xg x), 27, .inl v6))]) (rest := []) (T := TX9) (c_X9_isGood (xl x) (xg x) a0 a2 a3 a1 a4 a5 a6 a7 a8 a9 a10 a11 a12 a13 v0 v1 v2 v3 v4 v5 1 h) gX9_setBasePrice_X9_isGood (by rfl) rfl rfl (by decide +kernel) ⟨⟨(Nat.le_of_ble_eq_true rfl), (Nat.le_of_ble_eq_true rfl)⟩, (Nat.le_of_ble_eq_true rfl), (Nat.le_of_ble_eq_true rfl)⟩ (Nat.le_of_ble_eq_true rfl) rfl rfl (sb_of [0, 1] rfl rfl) rfl dX9_setBasePrice_27 (fun v X1 hp => ?_)
      obtain ⟨r9, w10, rfl, rfl, h⟩ := hp
      refine xw_X (sb_of [0, 1] rfl rfl) (show ww x (W_X9_setBasePrice (xg x) a0 a1 a2 a3 a4 a5 a6 a7 a8 a9 a10 a11 a12 a13 w10 v1 v2 v3 v4 v5 v6) [(0, .ref a0), (1, .int p1), (2, .int p2)] 0 0 30 [.int r9] from ?_)
      refine xw_if_ne hf (pc := 30) dX9_setBasePrice_30 (c := r9 = 0) Iff.rfl (tgt := 35) rfl ⟨fun c => ?_, fun c => ?_⟩
      · have h := h.1 c
        refine xw_iconst hf (pc := 33) dX9_setBasePrice_33 (v := 0) (by decide) ?_
        exact xw_iret hf (pc := 34) dX9_setBasePrice_34 hr (Nat.le_of_ble_eq_true rfl) (Nat.le_of_ble_eq_true rfl) ⟨_, _, _, rfl, rfl, h⟩
      · have h := h.2 c
        refine xw_aload_n hf (pc := 35) dX9_setBasePrice_35 rfl 0 rfl ?_
        refine xw_get hf (pc := 36) dX9_setBasePrice_36 (T := TX9) mi_X9_setBasePrice_X9 rfl 0 rfl 4 (by decide) rfl mw_X9_setBasePrice_0 rfl ?_
        refine xw_iload_n hf (pc := 39) dX9_setBasePrice_39 rfl 1 rfl ?_
        refine xw_iald hf (pc := 40) dX9_setBasePrice_40 1 rfl h.1 ?_
        have h := h.2
        refine xw_topi (fun y11 ey11 => ?_)
        have h := h y11 ey11
        refine xw_istore_n hf (pc := 41) dX9_setBasePrice_41 rfl [(3, .int y11), (0, .ref a0), (1, .int p1), (2, .int p2)] hn (by decide) rfl ?_
        refine xw_aload_n hf (pc := 42) dX9_setBasePrice_42 rfl 1 rfl ?_
        refine xw_get hf (pc := 43) dX9_setBasePrice_43 (T := TX9) mi_X9_setBasePrice_X9 rfl 0 rfl 4 (by decide) rfl mw_X9_setBasePrice_0 rfl ?_
        refine xw_iload_n hf (pc := 46) dX9_setBasePrice_46 rfl 2 rfl ?_
        refine xw_iload_n hf (pc := 47) dX9_setBasePrice_47 rfl 3 rfl ?_
        refine xw_iast hf (pc := 48) dX9_setBasePrice_48 1 rfl h.1 (W_X9_setBasePrice (xg x) a0 a1 a2 a3 a4 a5 a6 a7 a8 a9 a10 a11 a12 a13 w10 v1 v2 v3 v4 v5 (upd v6 p1.toNatClampNeg p2)) rfl ?_
        have h := h.2
        refine xw_iload_n hf (pc := 49) dX9_setBasePrice_49 rfl 0 rfl ?_
        exact xw_iret hf (pc := 50) dX9_setBasePrice_50 hr (Nat.le_of_ble_eq_true rfl) (Nat.le_of_ble_eq_true rfl) ⟨_, _, _, rfl, rfl, h⟩
abbrev W_X9_basePriceOf (g : Gx) (a0 a1 a2 a3 a4 a5 a6 a7 a8 a9 a10 a11 a12 a13 : Nat) (v0 : Int32) (v1 : Int32) (v2 : Int32) (v3 : Int32) (v4 : Int32) (v5 : Int32) (v6 : Nat → Int32) : va_W := [(a0, .inr (9, [.int v0, .ref a2, .int v1, .ref a3, .ref a1, .ref a4, .ref a5, .ref a6, .ref a7, .ref a8, .int v2, .int v3, .ref a9, .int v4, .ref a10, .ref a11, .ref a12, .ref a13, .int v5])), (a1, .inl (gI g, 27, .inl v6))]
abbrev rm_X9_basePriceOf : Room := { frames := 2, cells := 0, slots := 0, locals := 44 }
theorem mw_X9_basePriceOf_0 : (Cond.fieldLink RX9 17 "AnagramButcherModel" "base" "[I" : Cond) ∈ wsX9_basePriceOf := (List.mem_cons_of_mem _ (List.mem_append_left _ (List.mem_of_getElem? (i := 0) rfl)))
theorem mi_X9_basePriceOf_X9 : ∀ w ∈ wsX90, w ∈ wsX9_basePriceOf := fun _ h => (List.mem_cons_of_mem _ (List.mem_append_right _ h))
set_option maxHeartbeats 4000000 in
set_option maxRecDepth 100000 in
theorem c_X9_basePriceOf (l : Launch) (g : Gx) (a0 a1 a2 a3 a4 a5 a6 a7 a8 a9 a10 a11 a12 a13 : Nat) (v0 : Int32) (v1 : Int32) (v2 : Int32) (v3 : Int32) (v4 : Int32) (v5 : Int32) (v6 : Nat → Int32) (p1 : Int32) {post : Int32 → Int32 → Prop} (h : P_X9_basePriceOf post p1 v0 v1 v2 v3 v4 v5 v6) : cm l g yX9_basePriceOf wsX9_basePriceOf (rm_X9_basePriceOf) [.ref a0, .int p1] (W_X9_basePriceOf g a0 a1 a2 a3 a4 a5 a6 a7 a8 a9 a10 a11 a12 a13 v0 v1 v2 v3 v4 v5 v6) (fun v X1 => ∃ (r : Int32) (uv0 : Int32), v = some (.int r) ∧ X1 = W_X9_basePriceOf g a0 a1 a2 a3 a4 a5 a6 a7 a8 a9 a10 a11 a12 a13 uv0 v1 v2 v3 v4 v5 v6 ∧ post r uv0) := by
  refine cm_of (cc := cX9_basePriceOf) (nL := 2) (ret := (some .int)) (by decide +kernel) rfl (Nat.le_of_ble_eq_true rfl) ?_
  intro x hf hl hg hn hi hr
  subst hl
  subst hg
  show ww x (W_X9_basePriceOf (xg x) a0 a1 a2 a3 a4 a5 a6 a7 a8 a9 a10 a11 a12 a13 v0 v1 v2 v3 v4 v5 v6) [(0, .ref a0), (1, .int p1)] 0 0 0 []
  unfold P_X9_basePriceOf at h
  refine xw_aload_n hf (pc := 0) dX9_basePriceOf_0 rfl 0 rfl ?_
  refine xw_aload_n hf (pc := 1) dX9_basePriceOf_1 rfl 0 rfl ?_
  refine xw_get hf (pc := 2) dX9_basePriceOf_2 (T := TX9) mi_X9_basePriceOf_X9 rfl 0 rfl 4 (by decide) rfl mw_X9_basePriceOf_0 rfl ?_
  refine xw_iload_n hf (pc := 5) dX9_basePriceOf_5 rfl 1 rfl ?_
  refine xw_callV hf (pc := 6) (nA := 2) (Xr := []) (rest := []) (T := TX9) (c_X9_ofLetter (xl x) (xg x) a0 a1 a2 a3 a1 a4 a5 a6 a7 a8 a9 a10 a11 a12 a13 v0 v1 v2 v3 v4 v5 v6 p1 h) gX9_basePriceOf_X9_ofLetter (by rfl) rfl rfl (by decide +kernel) ⟨⟨(Nat.le_of_ble_eq_true rfl), (Nat.le_of_ble_eq_true rfl)⟩, (Nat.le_of_ble_eq_true rfl), (Nat.le_of_ble_eq_true rfl)⟩ (Nat.le_of_ble_eq_true rfl) rfl rfl (sb_of [0, 1] rfl rfl) rfl dX9_basePriceOf_6 (fun v X1 hp => ?_)
  obtain ⟨r1, w2, rfl, rfl, h⟩ := hp
  refine xw_X (sb_of [0, 1] rfl rfl) (show ww x (W_X9_basePriceOf (xg x) a0 a1 a2 a3 a4 a5 a6 a7 a8 a9 a10 a11 a12 a13 w2 v1 v2 v3 v4 v5 v6) [(0, .ref a0), (1, .int p1)] 0 0 9 [.int r1] from ?_)
  exact xw_iret hf (pc := 9) dX9_basePriceOf_9 hr (Nat.le_of_ble_eq_true rfl) (Nat.le_of_ble_eq_true rfl) ⟨_, _, rfl, rfl, h⟩
abbrev W_X9_price (g : Gx) (a0 a1 a2 a3 a4 a5 a6 a7 a8 a9 a10 a11 a12 a13 : Nat) (v0 : Int32) (v1 : Int32) (v2 : Int32) (v3 : Int32) (v4 : Int32) (v5 : Int32) (v6 : Nat → Int32) : va_W := [(a0, .inr (9, [.int v0, .ref a2, .int v1, .ref a3, .ref a1, .ref a4, .ref a5, .ref a6, .ref a7, .ref a8, .int v2, .int v3, .ref a9, .int v4, .ref a10, .ref a11, .ref a12, .ref a13, .int v5])), (a1, .inl (gI g, 27, .inl v6))]
abbrev rm_X9_price : Room := { frames := 1, cells := 0, slots := 0, locals := 21 }
theorem mw_X9_price_0 : (Cond.methodLink RX9 123 Lib.Math.max.name : Cond) ∈ wsX9_price := (List.mem_cons_of_mem _ (List.mem_append_left _ (List.mem_of_getElem? (i := 0) rfl)))
theorem mw_X9_price_1 : (Cond.static Lib.Math.max.name : Cond) ∈ wsX9_price := (List.mem_cons_of_mem _ (List.mem_append_left _ (List.mem_of_getElem? (i := 1) rfl)))
theorem mw_X9_price_2 : (Cond.initialized "java/lang/Math" : Cond) ∈ wsX9_price := (List.mem_cons_of_mem _ (List.mem_append_left _ (List.mem_of_getElem? (i := 2) rfl)))
theorem mw_X9_price_3 : (Cond.code Lib.Math.max.name Lib.Math.max.code 2 (some .int) : Cond) ∈ wsX9_price := (List.mem_cons_of_mem _ (List.mem_append_left _ (List.mem_of_getElem? (i := 3) rfl)))
theorem mw_X9_price_4 : (Cond.fieldLink RX9 17 "AnagramButcherModel" "base" "[I" : Cond) ∈ wsX9_price := (List.mem_cons_of_mem _ (List.mem_append_left _ (List.mem_of_getElem? (i := 4) rfl)))
theorem mi_X9_price_X9 : ∀ w ∈ wsX90, w ∈ wsX9_price := fun _ h => (List.mem_cons_of_mem _ (List.mem_append_right _ h))
set_option maxHeartbeats 4000000 in
set_option maxRecDepth 100000 in
theorem c_X9_price (l : Launch) (g : Gx) (a0 a1 a2 a3 a4 a5 a6 a7 a8 a9 a10 a11 a12 a13 : Nat) (v0 : Int32) (v1 : Int32) (v2 : Int32) (v3 : Int32) (v4 : Int32) (v5 : Int32) (v6 : Nat → Int32) (p1 : Int32) (p2 : Int32) {post : Int32 → Prop} (h : P_X9_price post p1 p2 v0 v1 v2 v3 v4 v5 v6) : cm l g yX9_price wsX9_price (rm_X9_price) [.ref a0, .int p1, .int p2] (W_X9_price g a0 a1 a2 a3 a4 a5 a6 a7 a8 a9 a10 a11 a12 a13 v0 v1 v2 v3 v4 v5 v6) (fun v X1 => ∃ (r : Int32), v = some (.int r) ∧ X1 = W_X9_price g a0 a1 a2 a3 a4 a5 a6 a7 a8 a9 a10 a11 a12 a13 v0 v1 v2 v3 v4 v5 v6 ∧ post r) := by
  refine cm_of (cc := cX9_price) (nL := 4) (ret := (some .int)) (by decide +kernel) rfl (Nat.le_of_ble_eq_true rfl) ?_
  intro x hf hl hg hn hi hr
  subst hl
  subst hg
  show ww x (W_X9_price (xg x) a0 a1 a2 a3 a4 a5 a6 a7 a8 a9 a10 a11 a12 a13 v0 v1 v2 v3 v4 v5 v6) [(0, .ref a0), (1, .int p1), (2, .int p2)] 0 0 0 []
  unfold P_X9_price at h
  refine xw_iconst hf (pc := 0) dX9_price_0 (v := 0) (by decide) ?_
  refine xw_bipush hf (pc := 1) dX9_price_1 (v := 10) (by decide) ?_
  refine xw_iload_n hf (pc := 3) dX9_price_3 rfl 2 rfl ?_
  refine xw_isub hf (pc := 4) dX9_price_4 ?_
  refine xw_max hf mw_X9_price_0 mw_X9_price_1 mw_X9_price_2 mw_X9_price_3 ⟨⟨(Nat.le_of_ble_eq_true rfl), (Nat.le_of_ble_eq_true rfl)⟩, (Nat.le_of_ble_eq_true rfl), (Nat.le_of_ble_eq_true rfl)⟩ (Nat.le_of_ble_eq_true rfl) dX9_price_5 ?_
  refine xw_topi (fun y1 ey1 => ?_)
  have h := h y1 ey1
  refine xw_istore_n hf (pc := 8) dX9_price_8 rfl [(3, .int y1), (0, .ref a0), (1, .int p1), (2, .int p2)] hn (by decide) rfl ?_
  refine xw_aload_n hf (pc := 9) dX9_price_9 rfl 1 rfl ?_
  refine xw_get hf (pc := 10) dX9_price_10 (T := TX9) mi_X9_price_X9 rfl 0 rfl 4 (by decide) rfl mw_X9_price_4 rfl ?_
  refine xw_iload_n hf (pc := 13) dX9_price_13 rfl 2 rfl ?_
  refine xw_iald hf (pc := 14) dX9_price_14 1 rfl h.1 ?_
  have h := h.2
  refine xw_aload_n hf (pc := 15) dX9_price_15 rfl 1 rfl ?_
  refine xw_get hf (pc := 16) dX9_price_16 (T := TX9) mi_X9_price_X9 rfl 0 rfl 4 (by decide) rfl mw_X9_price_4 rfl ?_
  refine xw_iload_n hf (pc := 19) dX9_price_19 rfl 2 rfl ?_
  refine xw_iald hf (pc := 20) dX9_price_20 1 rfl h.1 ?_
  have h := h.2
  refine xw_iload_n hf (pc := 21) dX9_price_21 rfl 0 rfl ?_
  refine xw_imul hf (pc := 22) dX9_price_22 ?_
  refine xw_bipush hf (pc := 23) dX9_price_23 (v := 10) (by decide) ?_
  refine xw_idiv hf (pc := 25) dX9_price_25 (by decide) ?_
  refine xw_iadd hf (pc := 26) dX9_price_26 ?_
  exact xw_iret hf (pc := 27) dX9_price_27 hr (Nat.le_of_ble_eq_true rfl) (Nat.le_of_ble_eq_true rfl) ⟨_, rfl, rfl, h⟩
abbrev W_X9_presentPriceOf (g : Gx) (a0 a1 a2 a3 a4 a5 a6 a7 a8 a9 a10 a11 a12 a13 : Nat) (v0 : Int32) (v1 : Int32) (v2 : Int32) (v3 : Int32) (v4 : Int32) (v5 : Int32) (v6 : Nat → Int32) (v7 : Nat → Int32) : va_W := [(a0, .inr (9, [.int v0, .ref a3, .int v1, .ref a1, .ref a2, .ref a4, .ref a5, .ref a6, .ref a7, .ref a8, .int v2, .int v3, .ref a9, .int v4, .ref a10, .ref a11, .ref a12, .ref a13, .int v5])), (a1, .inl (gI g, 27, .inl v6)), (a2, .inl (gI g, 27, .inl v7))]
abbrev rm_X9_presentPriceOf : Room := { frames := 2, cells := 0, slots := 0, locals := 44 }
theorem mw_X9_presentPriceOf_0 : (Cond.fieldLink RX9 13 "AnagramButcherModel" "stock" "[I" : Cond) ∈ wsX9_presentPriceOf := (List.mem_cons_of_mem _ (List.mem_append_left _ (List.mem_of_getElem? (i := 0) rfl)))
theorem mi_X9_presentPriceOf_X9 : ∀ w ∈ wsX90, w ∈ wsX9_presentPriceOf := fun _ h => (List.mem_cons_of_mem _ (List.mem_append_right _ h))
set_option maxHeartbeats 4000000 in
set_option maxRecDepth 100000 in
theorem c_X9_presentPriceOf (l : Launch) (g : Gx) (a0 a1 a2 a3 a4 a5 a6 a7 a8 a9 a10 a11 a12 a13 : Nat) (v0 : Int32) (v1 : Int32) (v2 : Int32) (v3 : Int32) (v4 : Int32) (v5 : Int32) (v6 : Nat → Int32) (v7 : Nat → Int32) (p1 : Int32) {post : Int32 → Int32 → Prop} (h : P_X9_presentPriceOf post p1 v0 v1 v2 v3 v4 v5 v6 v7) : cm l g yX9_presentPriceOf wsX9_presentPriceOf (rm_X9_presentPriceOf) [.ref a0, .int p1] (W_X9_presentPriceOf g a0 a1 a2 a3 a4 a5 a6 a7 a8 a9 a10 a11 a12 a13 v0 v1 v2 v3 v4 v5 v6 v7) (fun v X1 => ∃ (r : Int32) (uv0 : Int32), v = some (.int r) ∧ X1 = W_X9_presentPriceOf g a0 a1 a2 a3 a4 a5 a6 a7 a8 a9 a10 a11 a12 a13 uv0 v1 v2 v3 v4 v5 v6 v7 ∧ post r uv0) := by
  refine cm_of (cc := cX9_presentPriceOf) (nL := 2) (ret := (some .int)) (by decide +kernel) rfl (Nat.le_of_ble_eq_true rfl) ?_
  intro x hf hl hg hn hi hr
  subst hl
  subst hg
  show ww x (W_X9_presentPriceOf (xg x) a0 a1 a2 a3 a4 a5 a6 a7 a8 a9 a10 a11 a12 a13 v0 v1 v2 v3 v4 v5 v6 v7) [(0, .ref a0), (1, .int p1)] 0 0 0 []
  unfold P_X9_presentPriceOf at h
  refine xw_aload_n hf (pc := 0) dX9_presentPriceOf_0 rfl 0 rfl ?_
  refine xw_iload_n hf (pc := 1) dX9_presentPriceOf_1 rfl 1 rfl ?_
  refine xw_iconst hf (pc := 2) dX9_presentPriceOf_2 (v := 1) (by decide) ?_
  refine xw_bipush hf (pc := 3) dX9_presentPriceOf_3 (v := 26) (by decide) ?_
  refine xw_callS hf (pc := 5) (nA := 3) (Xr := W_X9_presentPriceOf (xg x) a0 a1 a2 a3 a4 a5 a6 a7 a8 a9 a10 a11 a12 a13 v0 v1 v2 v3 v4 v5 v6 v7) (rest := [.ref a0]) (c_X9_isWithin (xl x) (xg x) p1 1 26 h) gX9_presentPriceOf_X9_isWithin (by rfl) rfl (by decide +kernel) ⟨⟨(Nat.le_of_ble_eq_true rfl), (Nat.le_of_ble_eq_true rfl)⟩, (Nat.le_of_ble_eq_true rfl), (Nat.le_of_ble_eq_true rfl)⟩ (Nat.le_of_ble_eq_true rfl) (sb_rf _) rfl dX9_presentPriceOf_5 (fun v X1 hp => ?_)
  obtain ⟨r1, rfl, rfl, h⟩ := hp
  show ww x (W_X9_presentPriceOf (xg x) a0 a1 a2 a3 a4 a5 a6 a7 a8 a9 a10 a11 a12 a13 v0 v1 v2 v3 v4 v5 v6 v7) [(0, .ref a0), (1, .int p1)] 0 0 8 [.int r1, .ref a0]
  refine xw_callV hf (pc := 8) (nA := 1) (Xr := [(a1, .inl (gI (xg x), 27, .inl v6)), (a2, .inl (gI (xg x), 27, .inl v7))]) (rest := []) (T := TX9) (c_X9_isGood (xl x) (xg x) a0 a3 a1 a2 a4 a5 a6 a7 a8 a9 a10 a11 a12 a13 v0 v1 v2 v3 v4 v5 r1 h) gX9_presentPriceOf_X9_isGood (by rfl) rfl rfl (by decide +kernel) ⟨⟨(Nat.le_of_ble_eq_true rfl), (Nat.le_of_ble_eq_true rfl)⟩, (Nat.le_of_ble_eq_true rfl), (Nat.le_of_ble_eq_true rfl)⟩ (Nat.le_of_ble_eq_true rfl) rfl rfl (sb_of [0, 1, 2] rfl rfl) rfl dX9_presentPriceOf_8 (fun v X1 hp => ?_)
  obtain ⟨r2, w3, rfl, rfl, h⟩ := hp
  refine xw_X (sb_of [0, 1, 2] rfl rfl) (show ww x (W_X9_presentPriceOf (xg x) a0 a1 a2 a3 a4 a5 a6 a7 a8 a9 a10 a11 a12 a13 w3 v1 v2 v3 v4 v5 v6 v7) [(0, .ref a0), (1, .int p1)] 0 0 11 [.int r2] from ?_)
  refine xw_if_eq hf (pc := 11) dX9_presentPriceOf_11 (c := r2 = 0) Iff.rfl (tgt := 28) rfl ⟨fun c => ?_, fun c => ?_⟩
  · have h := h.1 c
    refine xw_iconst hf (pc := 28) dX9_presentPriceOf_28 (v := 0) (by decide) ?_
    exact xw_iret hf (pc := 29) dX9_presentPriceOf_29 hr (Nat.le_of_ble_eq_true rfl) (Nat.le_of_ble_eq_true rfl) ⟨_, _, rfl, rfl, h⟩
  · have h := h.2 c
    refine xw_aload_n hf (pc := 14) dX9_presentPriceOf_14 rfl 0 rfl ?_
    refine xw_iload_n hf (pc := 15) dX9_presentPriceOf_15 rfl 1 rfl ?_
    refine xw_aload_n hf (pc := 16) dX9_presentPriceOf_16 rfl 0 rfl ?_
    refine xw_get hf (pc := 17) dX9_presentPriceOf_17 (T := TX9) mi_X9_presentPriceOf_X9 rfl 0 rfl 3 (by decide) rfl mw_X9_presentPriceOf_0 rfl ?_
    refine xw_iload_n hf (pc := 20) dX9_presentPriceOf_20 rfl 1 rfl ?_
    refine xw_iald hf (pc := 21) dX9_presentPriceOf_21 1 rfl h.1 ?_
    have h := h.2
    refine xw_callV hf (pc := 22) (nA := 2) (Xr := [(a1, .inl (gI (xg x), 27, .inl v6))]) (rest := []) (T := TX9) (c_X9_price (xl x) (xg x) a0 a2 a3 a1 a4 a5 a6 a7 a8 a9 a10 a11 a12 a13 w3 v1 v2 v3 v4 v5 v7 p1 (v6 p1.toNatClampNeg) h) gX9_presentPriceOf_X9_price (by rfl) rfl rfl (by decide +kernel) ⟨⟨(Nat.le_of_ble_eq_true rfl), (Nat.le_of_ble_eq_true rfl)⟩, (Nat.le_of_ble_eq_true rfl), (Nat.le_of_ble_eq_true rfl)⟩ (Nat.le_of_ble_eq_true rfl) rfl rfl (sb_of [0, 2, 1] rfl rfl) rfl dX9_presentPriceOf_22 (fun v X1 hp => ?_)
    obtain ⟨r4, rfl, rfl, h⟩ := hp
    refine xw_X (sb_of [0, 2, 1] rfl rfl) (show ww x (W_X9_presentPriceOf (xg x) a0 a1 a2 a3 a4 a5 a6 a7 a8 a9 a10 a11 a12 a13 w3 v1 v2 v3 v4 v5 v6 v7) [(0, .ref a0), (1, .int p1)] 0 0 25 [.int r4] from ?_)
    refine xw_goto hf (pc := 25) dX9_presentPriceOf_25 (tgt := 29) rfl ?_
    exact xw_iret hf (pc := 29) dX9_presentPriceOf_29 hr (Nat.le_of_ble_eq_true rfl) (Nat.le_of_ble_eq_true rfl) ⟨_, _, rfl, rfl, h⟩
abbrev W_X9_weightOf (g : Gx) (a0 a1 a2 a3 a4 a5 a6 a7 a8 a9 a10 a11 a12 a13 : Nat) (v0 : Int32) (v1 : Int32) (v2 : Int32) (v3 : Int32) (v4 : Int32) (v5 : Int32) : va_W := [(a0, .inr (9, [.int v0, .ref a1, .int v1, .ref a2, .ref a3, .ref a4, .ref a5, .ref a6, .ref a7, .ref a8, .int v2, .int v3, .ref a9, .int v4, .ref a10, .ref a11, .ref a12, .ref a13, .int v5]))]
abbrev rm_X9_weightOf : Room := { frames := 2, cells := 0, slots := 0, locals := 48 }
theorem mw_X9_weightOf_0 : (Cond.constantLong RX9 63 (31) : Cond) ∈ wsX9_weightOf := (List.mem_cons_of_mem _ (List.mem_append_left _ (List.mem_of_getElem? (i := 0) rfl)))
set_option maxHeartbeats 4000000 in
set_option maxRecDepth 100000 in
theorem w_X9_weightOf_L18 {x : Cx} (hf : fx x (rm_X9_weightOf) RX9 cX9_weightOf wsX9_weightOf) (hn : xn x = 6) {k0 n0 : Nat} (hk : k0 ≤ (rm_X9_weightOf).cells ∧ n0 ≤ (rm_X9_weightOf).slots) (a0 a1 a2 a3 a4 a5 a6 a7 a8 a9 a10 a11 a12 a13 : Nat) (v0 : Int32) (v1 : Int32) (v2 : Int32) (v3 : Int32) (v4 : Int32) (v5 : Int32) {K47 : Int32 → Prop}
    (n : Nat) (z3 : Int32) (z4 : Int64) (h : P_X9_weightOf_L18 K47 n z3 z4)
    (hK47 : ∀ (y3 : Int32), K47 y3 → ww x (W_X9_weightOf (xg x) a0 a1 a2 a3 a4 a5 a6 a7 a8 a9 a10 a11 a12 a13 v0 v1 v2 v3 v4 v5) [(3, .int y3)] k0 n0 47 []) :
    ww x (W_X9_weightOf (xg x) a0 a1 a2 a3 a4 a5 a6 a7 a8 a9 a10 a11 a12 a13 v0 v1 v2 v3 v4 v5) [(3, .int z3), (4, .long z4)] k0 n0 18 [] := by
  induction n generalizing z3 z4 with
  | zero => exact h.elim
  | succ n ih =>
    unfold P_X9_weightOf_L18 at h
    refine xw_lload hf (pc := 18) dX9_weightOf_18 1 rfl ?_
    refine xw_lconst hf (pc := 20) dX9_weightOf_20 (v := 0) (by decide) ?_
    refine xw_lcmp hf (pc := 21) dX9_weightOf_21 ?_
    refine xw_if_le hf (pc := 22) dX9_weightOf_22 (c := z4 ≤ 0) (lc_le _ _) (tgt := 47) rfl ⟨fun c => ?_, fun c => ?_⟩
    · have h := h.1 c
      refine xw_L [0] rfl ?_
      exact hK47 _ h
    · have h := h.2 c
      refine xw_iload_n hf (pc := 25) dX9_weightOf_25 rfl 0 rfl ?_
      refine xw_lload hf (pc := 26) dX9_weightOf_26 1 rfl ?_
      refine xw_ldc2 hf (pc := 28) dX9_weightOf_28 mw_X9_weightOf_0 ?_
      refine xw_land hf (pc := 31) dX9_weightOf_31 ?_
      refine xw_l2i hf (pc := 32) dX9_weightOf_32 ?_
      refine xw_callS hf (pc := 33) (nA := 1) (Xr := W_X9_weightOf (xg x) a0 a1 a2 a3 a4 a5 a6 a7 a8 a9 a10 a11 a12 a13 v0 v1 v2 v3 v4 v5) (rest := [.int z3]) (c_X9_weight (xl x) (xg x) ((z4 &&& 31).toInt32) h) gX9_weightOf_X9_weight (by rfl) rfl (by decide +kernel) ⟨⟨(Nat.le_of_ble_eq_true rfl), (Nat.le_of_ble_eq_true rfl)⟩, hk.1, hk.2⟩ (Nat.le_of_ble_eq_true rfl) (sb_rf _) rfl dX9_weightOf_33 (fun v X1 hp => ?_)
      obtain ⟨r4, rfl, rfl, h⟩ := hp
      show ww x (W_X9_weightOf (xg x) a0 a1 a2 a3 a4 a5 a6 a7 a8 a9 a10 a11 a12 a13 v0 v1 v2 v3 v4 v5) [(3, .int z3), (4, .long z4)] k0 n0 36 [.int r4, .int z3]
      refine xw_iadd hf (pc := 36) dX9_weightOf_36 ?_
      refine xw_topi (fun y5 ey5 => ?_)
      have h := h y5 ey5
      refine xw_istore_n hf (pc := 37) dX9_weightOf_37 rfl [(3, .int y5), (4, .long z4)] hn (by decide) rfl ?_
      refine xw_lload hf (pc := 38) dX9_weightOf_38 1 rfl ?_
      refine xw_iconst hf (pc := 40) dX9_weightOf_40 (v := 5) (by decide) ?_
      refine xw_lshr hf (pc := 41) dX9_weightOf_41 ?_
      refine xw_topl (fun y6 ey6 => ?_)
      have h := h y6 ey6
      refine xw_lstore hf (pc := 42) dX9_weightOf_42 [(4, .long y6), (3, .int y5)] hn (by decide) rfl ?_
      refine xw_goto hf (pc := 44) dX9_weightOf_44 (tgt := 18) rfl ?_
      refine xw_L [1, 0] rfl ?_
      exact ih _ _ h
set_option maxHeartbeats 4000000 in
set_option maxRecDepth 100000 in
theorem c_X9_weightOf (l : Launch) (g : Gx) (a0 a1 a2 a3 a4 a5 a6 a7 a8 a9 a10 a11 a12 a13 : Nat) (v0 : Int32) (v1 : Int32) (v2 : Int32) (v3 : Int32) (v4 : Int32) (v5 : Int32) (p1 : Int64) {post : Int32 → Int32 → Prop} (h : P_X9_weightOf post p1 v0 v1 v2 v3 v4 v5) : cm l g yX9_weightOf wsX9_weightOf (rm_X9_weightOf) [.ref a0, .long p1] (W_X9_weightOf g a0 a1 a2 a3 a4 a5 a6 a7 a8 a9 a10 a11 a12 a13 v0 v1 v2 v3 v4 v5) (fun v X1 => ∃ (r : Int32) (uv0 : Int32), v = some (.int r) ∧ X1 = W_X9_weightOf g a0 a1 a2 a3 a4 a5 a6 a7 a8 a9 a10 a11 a12 a13 uv0 v1 v2 v3 v4 v5 ∧ post r uv0) := by
  refine cm_of (cc := cX9_weightOf) (nL := 6) (ret := (some .int)) (by decide +kernel) rfl (Nat.le_of_ble_eq_true rfl) ?_
  intro x hf hl hg hn hi hr
  subst hl
  subst hg
  show ww x (W_X9_weightOf (xg x) a0 a1 a2 a3 a4 a5 a6 a7 a8 a9 a10 a11 a12 a13 v0 v1 v2 v3 v4 v5) [(0, .ref a0), (1, .long p1)] 0 0 0 []
  unfold P_X9_weightOf at h
  refine xw_aload_n hf (pc := 0) dX9_weightOf_0 rfl 0 rfl ?_
  refine xw_lload_n hf (pc := 1) dX9_weightOf_1 rfl 1 rfl ?_
  refine xw_callS hf (pc := 2) (nA := 1) (Xr := W_X9_weightOf (xg x) a0 a1 a2 a3 a4 a5 a6 a7 a8 a9 a10 a11 a12 a13 v0 v1 v2 v3 v4 v5) (rest := [.ref a0]) (c_X9_isWord (xl x) (xg x) p1 h) gX9_weightOf_X9_isWord (by rfl) rfl (by decide +kernel) ⟨⟨(Nat.le_of_ble_eq_true rfl), (Nat.le_of_ble_eq_true rfl)⟩, (Nat.le_of_ble_eq_true rfl), (Nat.le_of_ble_eq_true rfl)⟩ (Nat.le_of_ble_eq_true rfl) (sb_rf _) rfl dX9_weightOf_2 (fun v X1 hp => ?_)
  obtain ⟨r1, rfl, rfl, h⟩ := hp
  show ww x (W_X9_weightOf (xg x) a0 a1 a2 a3 a4 a5 a6 a7 a8 a9 a10 a11 a12 a13 v0 v1 v2 v3 v4 v5) [(0, .ref a0), (1, .long p1)] 0 0 5 [.int r1, .ref a0]
  refine xw_callV hf (pc := 5) (nA := 1) (Xr := []) (rest := []) (T := TX9) (c_X9_isGood (xl x) (xg x) a0 a1 a2 a3 a4 a5 a6 a7 a8 a9 a10 a11 a12 a13 v0 v1 v2 v3 v4 v5 r1 h) gX9_weightOf_X9_isGood (by rfl) rfl rfl (by decide +kernel) ⟨⟨(Nat.le_of_ble_eq_true rfl), (Nat.le_of_ble_eq_true rfl)⟩, (Nat.le_of_ble_eq_true rfl), (Nat.le_of_ble_eq_true rfl)⟩ (Nat.le_of_ble_eq_true rfl) rfl rfl (sb_of [0] rfl rfl) rfl dX9_weightOf_5 (fun v X1 hp => ?_)
  obtain ⟨r2, w3, rfl, rfl, h⟩ := hp
  refine xw_X (sb_of [0] rfl rfl) (show ww x (W_X9_weightOf (xg x) a0 a1 a2 a3 a4 a5 a6 a7 a8 a9 a10 a11 a12 a13 w3 v1 v2 v3 v4 v5) [(0, .ref a0), (1, .long p1)] 0 0 8 [.int r2] from ?_)
  refine xw_if_ne hf (pc := 8) dX9_weightOf_8 (c := r2 = 0) Iff.rfl (tgt := 13) rfl ⟨fun c => ?_, fun c => ?_⟩
  · have h := h.1 c
    refine xw_iconst hf (pc := 11) dX9_weightOf_11 (v := 0) (by decide) ?_
    exact xw_iret hf (pc := 12) dX9_weightOf_12 hr (Nat.le_of_ble_eq_true rfl) (Nat.le_of_ble_eq_true rfl) ⟨_, _, rfl, rfl, h⟩
  · have h := h.2 c
    refine xw_iconst hf (pc := 13) dX9_weightOf_13 (v := 0) (by decide) ?_
    refine xw_istore_n hf (pc := 14) dX9_weightOf_14 rfl [(3, .int 0), (0, .ref a0), (1, .long p1)] hn (by decide) rfl ?_
    refine xw_lload_n hf (pc := 15) dX9_weightOf_15 rfl 2 rfl ?_
    refine xw_lstore hf (pc := 16) dX9_weightOf_16 [(4, .long p1), (3, .int 0), (0, .ref a0), (1, .long p1)] hn (by decide) rfl ?_
    refine xw_L [1, 0] rfl ?_
    refine w_X9_weightOf_L18 hf hn ⟨(Nat.le_of_ble_eq_true rfl), (Nat.le_of_ble_eq_true rfl)⟩ a0 a1 a2 a3 a4 a5 a6 a7 a8 a9 a10 a11 a12 a13 w3 v1 v2 v3 v4 v5 FU _ _ h (fun x7 h => ?_)
    refine xw_iload_n hf (pc := 47) dX9_weightOf_47 rfl 0 rfl ?_
    exact xw_iret hf (pc := 48) dX9_weightOf_48 hr (Nat.le_of_ble_eq_true rfl) (Nat.le_of_ble_eq_true rfl) ⟨_, _, rfl, rfl, h⟩
abbrev W_X9_missing (g : Gx) (a0 a1 a2 a3 a4 a5 a6 a7 a8 a9 a10 a11 a12 a13 : Nat) (v0 : Int32) (v1 : Int32) (v2 : Int32) (v3 : Int32) (v4 : Int32) (v5 : Int32) (v6 : Nat → Int32) (v7 : Nat → Int32) : va_W := [(a0, .inr (9, [.int v0, .ref a3, .int v1, .ref a1, .ref a4, .ref a5, .ref a6, .ref a7, .ref a8, .ref a9, .int v2, .int v3, .ref a10, .int v4, .ref a2, .ref a11, .ref a12, .ref a13, .int v5])), (a1, .inl (gI g, 27, .inl v6)), (a2, .inl (gI g, 27, .inl v7))]
abbrev rm_X9_missing : Room := { frames := 0, cells := 0, slots := 0, locals := 0 }
theorem mw_X9_missing_0 : (Cond.fieldLink RX9 39 "AnagramButcherModel" "counts" "[I" : Cond) ∈ wsX9_missing := (List.mem_cons_of_mem _ (List.mem_append_left _ (List.mem_of_getElem? (i := 0) rfl)))
theorem mw_X9_missing_1 : (Cond.fieldLink RX9 13 "AnagramButcherModel" "stock" "[I" : Cond) ∈ wsX9_missing := (List.mem_cons_of_mem _ (List.mem_append_left _ (List.mem_of_getElem? (i := 1) rfl)))
theorem mi_X9_missing_X9 : ∀ w ∈ wsX90, w ∈ wsX9_missing := fun _ h => (List.mem_cons_of_mem _ (List.mem_append_right _ h))
set_option maxHeartbeats 4000000 in
set_option maxRecDepth 100000 in
theorem w_X9_missing_L2 {x : Cx} (hf : fx x (rm_X9_missing) RX9 cX9_missing wsX9_missing) (hn : xn x = 2) {k0 n0 : Nat} (hk : k0 ≤ (rm_X9_missing).cells ∧ n0 ≤ (rm_X9_missing).slots) (a0 a1 a2 a3 a4 a5 a6 a7 a8 a9 a10 a11 a12 a13 : Nat) (v6 : Nat → Int32) (v7 : Nat → Int32) (v0 : Int32) (v1 : Int32) (v2 : Int32) (v3 : Int32) (v4 : Int32) (v5 : Int32) {K23 : Int32 → Prop} {K31 : Prop}
    (n : Nat) (z1 : Int32) (h : P_X9_missing_L2 v6 v7 K23 K31 n z1)
    (hK23 : ∀ (y1 : Int32), K23 y1 → ww x (W_X9_missing (xg x) a0 a1 a2 a3 a4 a5 a6 a7 a8 a9 a10 a11 a12 a13 v0 v1 v2 v3 v4 v5 v6 v7) [(1, .int y1)] k0 n0 23 [])
    (hK31 : K31 → ww x (W_X9_missing (xg x) a0 a1 a2 a3 a4 a5 a6 a7 a8 a9 a10 a11 a12 a13 v0 v1 v2 v3 v4 v5 v6 v7) [] k0 n0 31 []) :
    ww x (W_X9_missing (xg x) a0 a1 a2 a3 a4 a5 a6 a7 a8 a9 a10 a11 a12 a13 v0 v1 v2 v3 v4 v5 v6 v7) [(0, .ref a0), (1, .int z1)] k0 n0 2 [] := by
  induction n generalizing z1 with
  | zero => exact h.elim
  | succ n ih =>
    unfold P_X9_missing_L2 at h
    refine xw_iload_n hf (pc := 2) dX9_missing_2 rfl 1 rfl ?_
    refine xw_bipush hf (pc := 3) dX9_missing_3 (v := 26) (by decide) ?_
    refine xw_icmp_gt hf (pc := 5) dX9_missing_5 (tgt := 31) rfl ⟨fun c => ?_, fun c => ?_⟩
    · have h := h.1 c
      refine xw_L [] rfl ?_
      exact hK31 h
    · have h := h.2 c
      refine xw_aload_n hf (pc := 8) dX9_missing_8 rfl 0 rfl ?_
      refine xw_get hf (pc := 9) dX9_missing_9 (T := TX9) mi_X9_missing_X9 rfl 0 rfl 14 (by decide) rfl mw_X9_missing_0 rfl ?_
      refine xw_iload_n hf (pc := 12) dX9_missing_12 rfl 1 rfl ?_
      refine xw_iald hf (pc := 13) dX9_missing_13 2 rfl h.1 ?_
      have h := h.2
      refine xw_aload_n hf (pc := 14) dX9_missing_14 rfl 0 rfl ?_
      refine xw_get hf (pc := 15) dX9_missing_15 (T := TX9) mi_X9_missing_X9 rfl 0 rfl 3 (by decide) rfl mw_X9_missing_1 rfl ?_
      refine xw_iload_n hf (pc := 18) dX9_missing_18 rfl 1 rfl ?_
      refine xw_iald hf (pc := 19) dX9_missing_19 1 rfl h.1 ?_
      have h := h.2
      refine xw_icmp_le hf (pc := 20) dX9_missing_20 (tgt := 25) rfl ⟨fun c => ?_, fun c => ?_⟩
      · have h := h.1 c
        refine xw_iinc hf (pc := 25) dX9_missing_25 (v := z1 + 1) 1 rfl rfl [(1, .int (z1 + 1)), (0, .ref a0)] hn (by decide) rfl ?_
        refine xw_goto hf (pc := 28) dX9_missing_28 (tgt := 2) rfl ?_
        refine xw_L [1, 0] rfl ?_
        exact ih _ h
      · have h := h.2 c
        refine xw_L [1] rfl ?_
        exact hK23 _ h
set_option maxHeartbeats 4000000 in
set_option maxRecDepth 100000 in
theorem c_X9_missing (l : Launch) (g : Gx) (a0 a1 a2 a3 a4 a5 a6 a7 a8 a9 a10 a11 a12 a13 : Nat) (v0 : Int32) (v1 : Int32) (v2 : Int32) (v3 : Int32) (v4 : Int32) (v5 : Int32) (v6 : Nat → Int32) (v7 : Nat → Int32) {post : Int32 → Prop} (h : P_X9_missing post v0 v1 v2 v3 v4 v5 v6 v7) : cm l g yX9_missing wsX9_missing (rm_X9_missing) [.ref a0] (W_X9_missing g a0 a1 a2 a3 a4 a5 a6 a7 a8 a9 a10 a11 a12 a13 v0 v1 v2 v3 v4 v5 v6 v7) (fun v X1 => ∃ (r : Int32), v = some (.int r) ∧ X1 = W_X9_missing g a0 a1 a2 a3 a4 a5 a6 a7 a8 a9 a10 a11 a12 a13 v0 v1 v2 v3 v4 v5 v6 v7 ∧ post r) := by
  refine cm_of (cc := cX9_missing) (nL := 2) (ret := (some .int)) (by decide +kernel) rfl (Nat.le_of_ble_eq_true rfl) ?_
  intro x hf hl hg hn hi hr
  subst hl
  subst hg
  show ww x (W_X9_missing (xg x) a0 a1 a2 a3 a4 a5 a6 a7 a8 a9 a10 a11 a12 a13 v0 v1 v2 v3 v4 v5 v6 v7) [(0, .ref a0)] 0 0 0 []
  unfold P_X9_missing at h
  refine xw_iconst hf (pc := 0) dX9_missing_0 (v := 1) (by decide) ?_
  refine xw_istore_n hf (pc := 1) dX9_missing_1 rfl [(1, .int 1), (0, .ref a0)] hn (by decide) rfl ?_
  refine xw_L [1, 0] rfl ?_
  refine w_X9_missing_L2 hf hn ⟨(Nat.le_of_ble_eq_true rfl), (Nat.le_of_ble_eq_true rfl)⟩ a0 a1 a2 a3 a4 a5 a6 a7 a8 a9 a10 a11 a12 a13 v6 v7 v0 v1 v2 v3 v4 v5 FU _ h (fun x1 h => ?_) (fun h => ?_)
  · refine xw_iload_n hf (pc := 23) dX9_missing_23 rfl 0 rfl ?_
    exact xw_iret hf (pc := 24) dX9_missing_24 hr (Nat.le_of_ble_eq_true rfl) (Nat.le_of_ble_eq_true rfl) ⟨_, rfl, rfl, h⟩
  · refine xw_iconst hf (pc := 31) dX9_missing_31 (v := (-1)) (by decide) ?_
    exact xw_iret hf (pc := 32) dX9_missing_32 hr (Nat.le_of_ble_eq_true rfl) (Nat.le_of_ble_eq_true rfl) ⟨_, rfl, rfl, h⟩
abbrev W_X9_cost (g : Gx) (a0 a1 a2 a3 a4 a5 a6 a7 a8 a9 a10 a11 a12 a13 : Nat) (v0 : Int32) (v1 : Int32) (v2 : Int32) (v3 : Int32) (v4 : Int32) (v5 : Int32) (v6 : Nat → Int32) (v7 : Nat → Int32) (v8 : Nat → Int32) (v9 : Nat → Int32) : va_W := [(a0, .inr (9, [.int v0, .ref a5, .int v1, .ref a1, .ref a2, .ref a6, .ref a7, .ref a8, .ref a9, .ref a10, .int v2, .int v3, .ref a3, .int v4, .ref a11, .ref a4, .ref a12, .ref a13, .int v5])), (a1, .inl (gI g, 27, .inl v6)), (a2, .inl (gI g, 27, .inl v7)), (a3, .inl (gI g, 12, .inl v8)), (a4, .inl (gI g, 27, .inl v9))]
abbrev rm_X9_cost : Room := { frames := 2, cells := 0, slots := 0, locals := 44 }
theorem mw_X9_cost_0 : (Cond.fieldLink RX9 42 "AnagramButcherModel" "inWord" "[I" : Cond) ∈ wsX9_cost := (List.mem_cons_of_mem _ (List.mem_append_left _ (List.mem_of_getElem? (i := 0) rfl)))
theorem mw_X9_cost_1 : (Cond.fieldLink RX9 69 "AnagramButcherModel" "speltCount" "I" : Cond) ∈ wsX9_cost := (List.mem_cons_of_mem _ (List.mem_append_left _ (List.mem_of_getElem? (i := 1) rfl)))
theorem mw_X9_cost_2 : (Cond.fieldLink RX9 36 "AnagramButcherModel" "spelt" "[I" : Cond) ∈ wsX9_cost := (List.mem_cons_of_mem _ (List.mem_append_left _ (List.mem_of_getElem? (i := 2) rfl)))
theorem mw_X9_cost_3 : (Cond.fieldLink RX9 13 "AnagramButcherModel" "stock" "[I" : Cond) ∈ wsX9_cost := (List.mem_cons_of_mem _ (List.mem_append_left _ (List.mem_of_getElem? (i := 3) rfl)))
theorem mi_X9_cost_X9 : ∀ w ∈ wsX90, w ∈ wsX9_cost := fun _ h => (List.mem_cons_of_mem _ (List.mem_append_right _ h))
set_option maxHeartbeats 4000000 in
set_option maxRecDepth 100000 in
theorem w_X9_cost_L4 {x : Cx} (hf : fx x (rm_X9_cost) RX9 cX9_cost wsX9_cost) (hn : xn x = 4) {k0 n0 : Nat} (hk : k0 ≤ (rm_X9_cost).cells ∧ n0 ≤ (rm_X9_cost).slots) (a0 a1 a2 a3 a4 a5 a6 a7 a8 a9 a10 a11 a12 a13 : Nat) (z1 : Int32) (v0 : Int32) (v1 : Int32) (v2 : Int32) (v3 : Int32) (v4 : Int32) (v5 : Int32) (v6 : Nat → Int32) (v7 : Nat → Int32) (v8 : Nat → Int32) {K23 : (Nat → Int32) → Prop}
    (n : Nat) (z2 : Int32) (v9 : Nat → Int32) (h : P_X9_cost_L4 z1 K23 n z2 v9)
    (hK23 : ∀ (uv9 : Nat → Int32), K23 uv9 → ww x (W_X9_cost (xg x) a0 a1 a2 a3 a4 a5 a6 a7 a8 a9 a10 a11 a12 a13 v0 v1 v2 v3 v4 v5 v6 v7 v8 uv9) [(0, .ref a0), (1, .int z1)] k0 n0 23 []) :
    ww x (W_X9_cost (xg x) a0 a1 a2 a3 a4 a5 a6 a7 a8 a9 a10 a11 a12 a13 v0 v1 v2 v3 v4 v5 v6 v7 v8 v9) [(0, .ref a0), (1, .int z1), (2, .int z2)] k0 n0 4 [] := by
  induction n generalizing z2 v9 with
  | zero => exact h.elim
  | succ n ih =>
    unfold P_X9_cost_L4 at h
    refine xw_iload_n hf (pc := 4) dX9_cost_4 rfl 2 rfl ?_
    refine xw_bipush hf (pc := 5) dX9_cost_5 (v := 26) (by decide) ?_
    refine xw_icmp_gt hf (pc := 7) dX9_cost_7 (tgt := 23) rfl ⟨fun c => ?_, fun c => ?_⟩
    · have h := h.1 c
      refine xw_L [0, 1] rfl ?_
      exact hK23 _ h
    · have h := h.2 c
      refine xw_aload_n hf (pc := 10) dX9_cost_10 rfl 0 rfl ?_
      refine xw_get hf (pc := 11) dX9_cost_11 (T := TX9) mi_X9_cost_X9 rfl 0 rfl 15 (by decide) rfl mw_X9_cost_0 rfl ?_
      refine xw_iload_n hf (pc := 14) dX9_cost_14 rfl 2 rfl ?_
      refine xw_iconst hf (pc := 15) dX9_cost_15 (v := 0) (by decide) ?_
      refine xw_iast hf (pc := 16) dX9_cost_16 4 rfl h.1 (W_X9_cost (xg x) a0 a1 a2 a3 a4 a5 a6 a7 a8 a9 a10 a11 a12 a13 v0 v1 v2 v3 v4 v5 v6 v7 v8 (upd v9 z2.toNatClampNeg 0)) rfl ?_
      have h := h.2
      refine xw_iinc hf (pc := 17) dX9_cost_17 (v := z2 + 1) 2 rfl rfl [(2, .int (z2 + 1)), (0, .ref a0), (1, .int z1)] hn (by decide) rfl ?_
      refine xw_goto hf (pc := 20) dX9_cost_20 (tgt := 4) rfl ?_
      refine xw_L [1, 2, 0] rfl ?_
      exact ih _ _ h
set_option maxHeartbeats 4000000 in
set_option maxRecDepth 100000 in
theorem w_X9_cost_L25 {x : Cx} (hf : fx x (rm_X9_cost) RX9 cX9_cost wsX9_cost) (hn : xn x = 4) {k0 n0 : Nat} (hk : k0 ≤ (rm_X9_cost).cells ∧ n0 ≤ (rm_X9_cost).slots) (a0 a1 a2 a3 a4 a5 a6 a7 a8 a9 a10 a11 a12 a13 : Nat) (v0 : Int32) (v1 : Int32) (v2 : Int32) (v3 : Int32) (v4 : Int32) (v5 : Int32) (v6 : Nat → Int32) (v7 : Nat → Int32) (v8 : Nat → Int32) {K82 : Int32 → (Nat → Int32) → Prop}
    (n : Nat) (z1 : Int32) (z2 : Int32) (v9 : Nat → Int32) (h : P_X9_cost_L25 v0 v1 v2 v3 v4 v5 v6 v7 v8 K82 n z1 z2 v9)
    (hK82 : ∀ (y1 : Int32), ∀ (uv9 : Nat → Int32), K82 y1 uv9 → ww x (W_X9_cost (xg x) a0 a1 a2 a3 a4 a5 a6 a7 a8 a9 a10 a11 a12 a13 v0 v1 v2 v3 v4 v5 v6 v7 v8 uv9) [(1, .int y1)] k0 n0 82 []) :
    ww x (W_X9_cost (xg x) a0 a1 a2 a3 a4 a5 a6 a7 a8 a9 a10 a11 a12 a13 v0 v1 v2 v3 v4 v5 v6 v7 v8 v9) [(0, .ref a0), (1, .int z1), (2, .int z2)] k0 n0 25 [] := by
  induction n generalizing z1 z2 v9 with
  | zero => exact h.elim
  | succ n ih =>
    unfold P_X9_cost_L25 at h
    refine xw_iload_n hf (pc := 25) dX9_cost_25 rfl 2 rfl ?_
    refine xw_aload_n hf (pc := 26) dX9_cost_26 rfl 0 rfl ?_
    refine xw_get hf (pc := 27) dX9_cost_27 (T := TX9) mi_X9_cost_X9 rfl 0 rfl 13 (by decide) rfl mw_X9_cost_1 rfl ?_
    refine xw_icmp_ge hf (pc := 30) dX9_cost_30 (tgt := 82) rfl ⟨fun c => ?_, fun c => ?_⟩
    · have h := h.1 c
      refine xw_L [1] rfl ?_
      exact hK82 _ _ h
    · have h := h.2 c
      refine xw_aload_n hf (pc := 33) dX9_cost_33 rfl 0 rfl ?_
      refine xw_get hf (pc := 34) dX9_cost_34 (T := TX9) mi_X9_cost_X9 rfl 0 rfl 12 (by decide) rfl mw_X9_cost_2 rfl ?_
      refine xw_iload_n hf (pc := 37) dX9_cost_37 rfl 2 rfl ?_
      refine xw_iald hf (pc := 38) dX9_cost_38 3 rfl h.1 ?_
      have h := h.2
      refine xw_topi (fun y2 ey2 => ?_)
      have h := h y2 ey2
      refine xw_istore_n hf (pc := 39) dX9_cost_39 rfl [(3, .int y2), (0, .ref a0), (1, .int z1), (2, .int z2)] hn (by decide) rfl ?_
      refine xw_iload_n hf (pc := 40) dX9_cost_40 rfl 2 rfl ?_
      refine xw_aload_n hf (pc := 41) dX9_cost_41 rfl 1 rfl ?_
      refine xw_iload_n hf (pc := 42) dX9_cost_42 rfl 0 rfl ?_
      refine xw_aload_n hf (pc := 43) dX9_cost_43 rfl 1 rfl ?_
      refine xw_get hf (pc := 44) dX9_cost_44 (T := TX9) mi_X9_cost_X9 rfl 0 rfl 3 (by decide) rfl mw_X9_cost_3 rfl ?_
      refine xw_iload_n hf (pc := 47) dX9_cost_47 rfl 0 rfl ?_
      refine xw_iald hf (pc := 48) dX9_cost_48 1 rfl h.1 ?_
      have h := h.2
      refine xw_aload_n hf (pc := 49) dX9_cost_49 rfl 1 rfl ?_
      refine xw_get hf (pc := 50) dX9_cost_50 (T := TX9) mi_X9_cost_X9 rfl 0 rfl 15 (by decide) rfl mw_X9_cost_0 rfl ?_
      refine xw_iload_n hf (pc := 53) dX9_cost_53 rfl 0 rfl ?_
      refine xw_iald hf (pc := 54) dX9_cost_54 4 rfl h.1 ?_
      have h := h.2
      refine xw_isub hf (pc := 55) dX9_cost_55 ?_
      refine xw_callV hf (pc := 56) (nA := 2) (Xr := [(a1, .inl (gI (xg x), 27, .inl v6)), (a3, .inl (gI (xg x), 12, .inl v8)), (a4, .inl (gI (xg x), 27, .inl v9))]) (rest := [.int z1]) (T := TX9) (c_X9_price (xl x) (xg x) a0 a2 a5 a1 a6 a7 a8 a9 a10 a3 a11 a4 a12 a13 v0 v1 v2 v3 v4 v5 v7 y2 ((v6 y2.toNatClampNeg) - (v9 y2.toNatClampNeg)) h) gX9_cost_X9_price (by rfl) rfl rfl (by decide +kernel) ⟨⟨(Nat.le_of_ble_eq_true rfl), (Nat.le_of_ble_eq_true rfl)⟩, hk.1, hk.2⟩ (Nat.le_of_ble_eq_true rfl) rfl rfl (sb_of [0, 2, 1, 3, 4] rfl rfl) rfl dX9_cost_56 (fun v X1 hp => ?_)
      obtain ⟨r3, rfl, rfl, h⟩ := hp
      refine xw_X (sb_of [0, 2, 1, 3, 4] rfl rfl) (show ww x (W_X9_cost (xg x) a0 a1 a2 a3 a4 a5 a6 a7 a8 a9 a10 a11 a12 a13 v0 v1 v2 v3 v4 v5 v6 v7 v8 v9) [(3, .int y2), (0, .ref a0), (1, .int z1), (2, .int z2)] k0 n0 59 [.int r3, .int z1] from ?_)
      refine xw_iload_n hf (pc := 59) dX9_cost_59 rfl 0 rfl ?_
      refine xw_callS hf (pc := 60) (nA := 1) (Xr := W_X9_cost (xg x) a0 a1 a2 a3 a4 a5 a6 a7 a8 a9 a10 a11 a12 a13 v0 v1 v2 v3 v4 v5 v6 v7 v8 v9) (rest := [.int r3, .int z1]) (c_X9_weight (xl x) (xg x) y2 h) gX9_cost_X9_weight (by rfl) rfl (by decide +kernel) ⟨⟨(Nat.le_of_ble_eq_true rfl), (Nat.le_of_ble_eq_true rfl)⟩, hk.1, hk.2⟩ (Nat.le_of_ble_eq_true rfl) (sb_rf _) rfl dX9_cost_60 (fun v X1 hp => ?_)
      obtain ⟨r4, rfl, rfl, h⟩ := hp
      show ww x (W_X9_cost (xg x) a0 a1 a2 a3 a4 a5 a6 a7 a8 a9 a10 a11 a12 a13 v0 v1 v2 v3 v4 v5 v6 v7 v8 v9) [(3, .int y2), (0, .ref a0), (1, .int z1), (2, .int z2)] k0 n0 63 [.int r4, .int r3, .int z1]
      refine xw_imul hf (pc := 63) dX9_cost_63 ?_
      refine xw_iadd hf (pc := 64) dX9_cost_64 ?_
      refine xw_topi (fun y5 ey5 => ?_)
      have h := h y5 ey5
      refine xw_istore_n hf (pc := 65) dX9_cost_65 rfl [(1, .int y5), (3, .int y2), (0, .ref a0), (2, .int z2)] hn (by decide) rfl ?_
      refine xw_aload_n hf (pc := 66) dX9_cost_66 rfl 2 rfl ?_
      refine xw_get hf (pc := 67) dX9_cost_67 (T := TX9) mi_X9_cost_X9 rfl 0 rfl 15 (by decide) rfl mw_X9_cost_0 rfl ?_
      refine xw_iload_n hf (pc := 70) dX9_cost_70 rfl 1 rfl ?_
      refine xw_dup2 hf (pc := 71) dX9_cost_71 rfl rfl ?_
      refine xw_iald hf (pc := 72) dX9_cost_72 4 rfl h.1 ?_
      have h := h.2
      refine xw_iconst hf (pc := 73) dX9_cost_73 (v := 1) (by decide) ?_
      refine xw_iadd hf (pc := 74) dX9_cost_74 ?_
      refine xw_iast hf (pc := 75) dX9_cost_75 4 rfl h.1 (W_X9_cost (xg x) a0 a1 a2 a3 a4 a5 a6 a7 a8 a9 a10 a11 a12 a13 v0 v1 v2 v3 v4 v5 v6 v7 v8 (upd v9 y2.toNatClampNeg ((v9 y2.toNatClampNeg) + 1))) rfl ?_
      have h := h.2
      refine xw_iinc hf (pc := 76) dX9_cost_76 (v := z2 + 1) 3 rfl rfl [(2, .int (z2 + 1)), (1, .int y5), (3, .int y2), (0, .ref a0)] hn (by decide) rfl ?_
      refine xw_goto hf (pc := 79) dX9_cost_79 (tgt := 25) rfl ?_
      refine xw_L [3, 1, 0] rfl ?_
      exact ih _ _ _ h
set_option maxHeartbeats 4000000 in
set_option maxRecDepth 100000 in
theorem c_X9_cost (l : Launch) (g : Gx) (a0 a1 a2 a3 a4 a5 a6 a7 a8 a9 a10 a11 a12 a13 : Nat) (v0 : Int32) (v1 : Int32) (v2 : Int32) (v3 : Int32) (v4 : Int32) (v5 : Int32) (v6 : Nat → Int32) (v7 : Nat → Int32) (v8 : Nat → Int32) (v9 : Nat → Int32) {post : Int32 → (Nat → Int32) → Prop} (h : P_X9_cost post v0 v1 v2 v3 v4 v5 v6 v7 v8 v9) : cm l g yX9_cost wsX9_cost (rm_X9_cost) [.ref a0] (W_X9_cost g a0 a1 a2 a3 a4 a5 a6 a7 a8 a9 a10 a11 a12 a13 v0 v1 v2 v3 v4 v5 v6 v7 v8 v9) (fun v X1 => ∃ (r : Int32) (uv9 : Nat → Int32), v = some (.int r) ∧ X1 = W_X9_cost g a0 a1 a2 a3 a4 a5 a6 a7 a8 a9 a10 a11 a12 a13 v0 v1 v2 v3 v4 v5 v6 v7 v8 uv9 ∧ post r uv9) := by
  refine cm_of (cc := cX9_cost) (nL := 4) (ret := (some .int)) (by decide +kernel) rfl (Nat.le_of_ble_eq_true rfl) ?_
  intro x hf hl hg hn hi hr
  subst hl
  subst hg
  show ww x (W_X9_cost (xg x) a0 a1 a2 a3 a4 a5 a6 a7 a8 a9 a10 a11 a12 a13 v0 v1 v2 v3 v4 v5 v6 v7 v8 v9) [(0, .ref a0)] 0 0 0 []
  unfold P_X9_cost at h
  refine xw_iconst hf (pc := 0) dX9_cost_0 (v := 0) (by decide) ?_
  refine xw_istore_n hf (pc := 1) dX9_cost_1 rfl [(1, .int 0), (0, .ref a0)] hn (by decide) rfl ?_
  refine xw_iconst hf (pc := 2) dX9_cost_2 (v := 1) (by decide) ?_
  refine xw_istore_n hf (pc := 3) dX9_cost_3 rfl [(2, .int 1), (1, .int 0), (0, .ref a0)] hn (by decide) rfl ?_
  refine xw_L [2, 1, 0] rfl ?_
  refine w_X9_cost_L4 hf hn ⟨(Nat.le_of_ble_eq_true rfl), (Nat.le_of_ble_eq_true rfl)⟩ a0 a1 a2 a3 a4 a5 a6 a7 a8 a9 a10 a11 a12 a13 0 v0 v1 v2 v3 v4 v5 v6 v7 v8 FU _ _ h (fun w1 h => ?_)
  refine xw_iconst hf (pc := 23) dX9_cost_23 (v := 0) (by decide) ?_
  refine xw_istore_n hf (pc := 24) dX9_cost_24 rfl [(2, .int 0), (0, .ref a0), (1, .int 0)] hn (by decide) rfl ?_
  refine xw_L [1, 2, 0] rfl ?_
  refine w_X9_cost_L25 hf hn ⟨(Nat.le_of_ble_eq_true rfl), (Nat.le_of_ble_eq_true rfl)⟩ a0 a1 a2 a3 a4 a5 a6 a7 a8 a9 a10 a11 a12 a13 v0 v1 v2 v3 v4 v5 v6 v7 v8 FU _ _ _ h (fun x6 w7 h => ?_)
  refine xw_iload_n hf (pc := 82) dX9_cost_82 rfl 0 rfl ?_
  refine xw_bipush hf (pc := 83) dX9_cost_83 (v := 16) (by decide) ?_
  refine xw_idiv hf (pc := 85) dX9_cost_85 (by decide) ?_
  refine xw_iload_n hf (pc := 86) dX9_cost_86 rfl 0 rfl ?_
  refine xw_bipush hf (pc := 87) dX9_cost_87 (v := 16) (by decide) ?_
  refine xw_irem hf (pc := 89) dX9_cost_89 (by decide) ?_
  refine xw_if_ne hf (pc := 90) dX9_cost_90 (c := (x6 - x6 / 16 * 16) = 0) Iff.rfl (tgt := 97) rfl ⟨fun c => ?_, fun c => ?_⟩
  · have h := h.1 c
    refine xw_iconst hf (pc := 93) dX9_cost_93 (v := 0) (by decide) ?_
    refine xw_goto hf (pc := 94) dX9_cost_94 (tgt := 98) rfl ?_
    refine xw_iadd hf (pc := 98) dX9_cost_98 ?_
    exact xw_iret hf (pc := 99) dX9_cost_99 hr (Nat.le_of_ble_eq_true rfl) (Nat.le_of_ble_eq_true rfl) ⟨_, _, rfl, rfl, h⟩
  · have h := h.2 c
    refine xw_iconst hf (pc := 97) dX9_cost_97 (v := 1) (by decide) ?_
    refine xw_iadd hf (pc := 98) dX9_cost_98 ?_
    exact xw_iret hf (pc := 99) dX9_cost_99 hr (Nat.le_of_ble_eq_true rfl) (Nat.le_of_ble_eq_true rfl) ⟨_, _, rfl, rfl, h⟩
abbrev W_X9_costOf (g : Gx) (a0 a1 a2 a3 a4 a5 a6 a7 a8 a9 a10 a11 a12 a13 : Nat) (v0 : Int32) (v1 : Int32) (v2 : Int32) (v3 : Int32) (v4 : Int32) (v5 : Int32) (v6 : Nat → Int32) (v7 : Nat → Int32) (v8 : Nat → Int32) (v9 : Nat → Int32) (v10 : Nat → Int32) : va_W := [(a0, .inr (9, [.int v0, .ref a6, .int v1, .ref a1, .ref a2, .ref a7, .ref a8, .ref a9, .ref a10, .ref a11, .int v2, .int v3, .ref a3, .int v4, .ref a4, .ref a5, .ref a12, .ref a13, .int v5])), (a1, .inl (gI g, 27, .inl v6)), (a2, .inl (gI g, 27, .inl v7)), (a3, .inl (gI g, 12, .inl v8)), (a4, .inl (gI g, 27, .inl v9)), (a5, .inl (gI g, 27, .inl v10))]
abbrev rm_X9_costOf : Room := { frames := 3, cells := 0, slots := 0, locals := 67 }
set_option maxHeartbeats 4000000 in
set_option maxRecDepth 100000 in
theorem c_X9_costOf (l : Launch) (g : Gx) (a0 a1 a2 a3 a4 a5 a6 a7 a8 a9 a10 a11 a12 a13 : Nat) (v0 : Int32) (v1 : Int32) (v2 : Int32) (v3 : Int32) (v4 : Int32) (v5 : Int32) (v6 : Nat → Int32) (v7 : Nat → Int32) (v8 : Nat → Int32) (v9 : Nat → Int32) (v10 : Nat → Int32) (p1 : Int64) {post : Int32 → Int32 → Int32 → (Nat → Int32) → (Nat → Int32) → (Nat → Int32) → Prop} (h : P_X9_costOf post p1 v0 v1 v2 v3 v4 v5 v6 v7 v8 v9 v10) : cm l g yX9_costOf wsX9_costOf (rm_X9_costOf) [.ref a0, .long p1] (W_X9_costOf g a0 a1 a2 a3 a4 a5 a6 a7 a8 a9 a10 a11 a12 a13 v0 v1 v2 v3 v4 v5 v6 v7 v8 v9 v10) (fun v X1 => ∃ (r : Int32) (uv0 : Int32) (uv4 : Int32) (uv8 : Nat → Int32) (uv9 : Nat → Int32) (uv10 : Nat → Int32), v = some (.int r) ∧ X1 = W_X9_costOf g a0 a1 a2 a3 a4 a5 a6 a7 a8 a9 a10 a11 a12 a13 uv0 v1 v2 v3 uv4 v5 v6 v7 uv8 uv9 uv10 ∧ post r uv0 uv4 uv8 uv9 uv10) := by
  refine cm_of (cc := cX9_costOf) (nL := 3) (ret := (some .int)) (by decide +kernel) rfl (Nat.le_of_ble_eq_true rfl) ?_
  intro x hf hl hg hn hi hr
  subst hl
  subst hg
  show ww x (W_X9_costOf (xg x) a0 a1 a2 a3 a4 a5 a6 a7 a8 a9 a10 a11 a12 a13 v0 v1 v2 v3 v4 v5 v6 v7 v8 v9 v10) [(0, .ref a0), (1, .long p1)] 0 0 0 []
  unfold P_X9_costOf at h
  refine xw_aload_n hf (pc := 0) dX9_costOf_0 rfl 0 rfl ?_
  refine xw_lload_n hf (pc := 1) dX9_costOf_1 rfl 1 rfl ?_
  refine xw_callS hf (pc := 2) (nA := 1) (Xr := W_X9_costOf (xg x) a0 a1 a2 a3 a4 a5 a6 a7 a8 a9 a10 a11 a12 a13 v0 v1 v2 v3 v4 v5 v6 v7 v8 v9 v10) (rest := [.ref a0]) (c_X9_isWord (xl x) (xg x) p1 h) gX9_costOf_X9_isWord (by rfl) rfl (by decide +kernel) ⟨⟨(Nat.le_of_ble_eq_true rfl), (Nat.le_of_ble_eq_true rfl)⟩, (Nat.le_of_ble_eq_true rfl), (Nat.le_of_ble_eq_true rfl)⟩ (Nat.le_of_ble_eq_true rfl) (sb_rf _) rfl dX9_costOf_2 (fun v X1 hp => ?_)
  obtain ⟨r1, rfl, rfl, h⟩ := hp
  show ww x (W_X9_costOf (xg x) a0 a1 a2 a3 a4 a5 a6 a7 a8 a9 a10 a11 a12 a13 v0 v1 v2 v3 v4 v5 v6 v7 v8 v9 v10) [(0, .ref a0), (1, .long p1)] 0 0 5 [.int r1, .ref a0]
  refine xw_callV hf (pc := 5) (nA := 1) (Xr := [(a1, .inl (gI (xg x), 27, .inl v6)), (a2, .inl (gI (xg x), 27, .inl v7)), (a3, .inl (gI (xg x), 12, .inl v8)), (a4, .inl (gI (xg x), 27, .inl v9)), (a5, .inl (gI (xg x), 27, .inl v10))]) (rest := []) (T := TX9) (c_X9_isGood (xl x) (xg x) a0 a6 a1 a2 a7 a8 a9 a10 a11 a3 a4 a5 a12 a13 v0 v1 v2 v3 v4 v5 r1 h) gX9_costOf_X9_isGood (by rfl) rfl rfl (by decide +kernel) ⟨⟨(Nat.le_of_ble_eq_true rfl), (Nat.le_of_ble_eq_true rfl)⟩, (Nat.le_of_ble_eq_true rfl), (Nat.le_of_ble_eq_true rfl)⟩ (Nat.le_of_ble_eq_true rfl) rfl rfl (sb_of [0, 1, 2, 3, 4, 5] rfl rfl) rfl dX9_costOf_5 (fun v X1 hp => ?_)
  obtain ⟨r2, w3, rfl, rfl, h⟩ := hp
  refine xw_X (sb_of [0, 1, 2, 3, 4, 5] rfl rfl) (show ww x (W_X9_costOf (xg x) a0 a1 a2 a3 a4 a5 a6 a7 a8 a9 a10 a11 a12 a13 w3 v1 v2 v3 v4 v5 v6 v7 v8 v9 v10) [(0, .ref a0), (1, .long p1)] 0 0 8 [.int r2] from ?_)
  refine xw_if_ne hf (pc := 8) dX9_costOf_8 (c := r2 = 0) Iff.rfl (tgt := 13) rfl ⟨fun c => ?_, fun c => ?_⟩
  · have h := h.1 c
    refine xw_iconst hf (pc := 11) dX9_costOf_11 (v := 0) (by decide) ?_
    exact xw_iret hf (pc := 12) dX9_costOf_12 hr (Nat.le_of_ble_eq_true rfl) (Nat.le_of_ble_eq_true rfl) ⟨_, _, _, _, _, _, rfl, rfl, h⟩
  · have h := h.2 c
    refine xw_aload_n hf (pc := 13) dX9_costOf_13 rfl 0 rfl ?_
    refine xw_lload_n hf (pc := 14) dX9_costOf_14 rfl 1 rfl ?_
    refine xw_callV hf (pc := 15) (nA := 1) (Xr := [(a1, .inl (gI (xg x), 27, .inl v6)), (a2, .inl (gI (xg x), 27, .inl v7)), (a5, .inl (gI (xg x), 27, .inl v10))]) (rest := []) (T := TX9) (c_X9_spell (xl x) (xg x) a0 a3 a4 a6 a1 a2 a7 a8 a9 a10 a11 a5 a12 a13 w3 v1 v2 v3 v4 v5 v8 v9 p1 h) gX9_costOf_X9_spell (by rfl) rfl rfl (by decide +kernel) ⟨⟨(Nat.le_of_ble_eq_true rfl), (Nat.le_of_ble_eq_true rfl)⟩, (Nat.le_of_ble_eq_true rfl), (Nat.le_of_ble_eq_true rfl)⟩ (Nat.le_of_ble_eq_true rfl) rfl rfl (sb_of [0, 3, 4, 1, 2, 5] rfl rfl) rfl dX9_costOf_15 (fun v X1 hp => ?_)
    obtain ⟨w5, w6, w7, rfl, rfl, h⟩ := hp
    refine xw_X (sb_of [0, 3, 4, 1, 2, 5] rfl rfl) (show ww x (W_X9_costOf (xg x) a0 a1 a2 a3 a4 a5 a6 a7 a8 a9 a10 a11 a12 a13 w3 v1 v2 v3 w5 v5 v6 v7 w6 w7 v10) [(0, .ref a0), (1, .long p1)] 0 0 18 [] from ?_)
    refine xw_aload_n hf (pc := 18) dX9_costOf_18 rfl 0 rfl ?_
    refine xw_callV hf (pc := 19) (nA := 0) (Xr := [(a2, .inl (gI (xg x), 27, .inl v7)), (a3, .inl (gI (xg x), 12, .inl w6)), (a5, .inl (gI (xg x), 27, .inl v10))]) (rest := []) (T := TX9) (c_X9_missing (xl x) (xg x) a0 a1 a4 a6 a2 a7 a8 a9 a10 a11 a3 a5 a12 a13 w3 v1 v2 v3 w5 v5 v6 w7 h) gX9_costOf_X9_missing (by rfl) rfl rfl (by decide +kernel) ⟨⟨(Nat.le_of_ble_eq_true rfl), (Nat.le_of_ble_eq_true rfl)⟩, (Nat.le_of_ble_eq_true rfl), (Nat.le_of_ble_eq_true rfl)⟩ (Nat.le_of_ble_eq_true rfl) rfl rfl (sb_of [0, 1, 4, 2, 3, 5] rfl rfl) rfl dX9_costOf_19 (fun v X1 hp => ?_)
    obtain ⟨r8, rfl, rfl, h⟩ := hp
    refine xw_X (sb_of [0, 1, 3, 4, 2, 5] rfl rfl) (show ww x (W_X9_costOf (xg x) a0 a1 a2 a3 a4 a5 a6 a7 a8 a9 a10 a11 a12 a13 w3 v1 v2 v3 w5 v5 v6 v7 w6 w7 v10) [(0, .ref a0), (1, .long p1)] 0 0 22 [.int r8] from ?_)
    refine xw_iconst hf (pc := 22) dX9_costOf_22 (v := (-1)) (by decide) ?_
    refine xw_icmp_ne hf (pc := 23) dX9_costOf_23 (tgt := 33) rfl ⟨fun c => ?_, fun c => ?_⟩
    · have h := h.1 c
      refine xw_aload_n hf (pc := 26) dX9_costOf_26 rfl 0 rfl ?_
      refine xw_callV hf (pc := 27) (nA := 0) (Xr := [(a4, .inl (gI (xg x), 27, .inl w7))]) (rest := []) (T := TX9) (c_X9_cost (xl x) (xg x) a0 a1 a2 a3 a5 a6 a7 a8 a9 a10 a11 a4 a12 a13 w3 v1 v2 v3 w5 v5 v6 v7 w6 v10 h) gX9_costOf_X9_cost (by rfl) rfl rfl (by decide +kernel) ⟨⟨(Nat.le_of_ble_eq_true rfl), (Nat.le_of_ble_eq_true rfl)⟩, (Nat.le_of_ble_eq_true rfl), (Nat.le_of_ble_eq_true rfl)⟩ (Nat.le_of_ble_eq_true rfl) rfl rfl (sb_of [0, 1, 2, 3, 5, 4] rfl rfl) rfl dX9_costOf_27 (fun v X1 hp => ?_)
      obtain ⟨r9, w10, rfl, rfl, h⟩ := hp
      refine xw_X (sb_of [0, 1, 2, 3, 5, 4] rfl rfl) (show ww x (W_X9_costOf (xg x) a0 a1 a2 a3 a4 a5 a6 a7 a8 a9 a10 a11 a12 a13 w3 v1 v2 v3 w5 v5 v6 v7 w6 w7 w10) [(0, .ref a0), (1, .long p1)] 0 0 30 [.int r9] from ?_)
      refine xw_goto hf (pc := 30) dX9_costOf_30 (tgt := 38) rfl ?_
      exact xw_iret hf (pc := 38) dX9_costOf_38 hr (Nat.le_of_ble_eq_true rfl) (Nat.le_of_ble_eq_true rfl) ⟨_, _, _, _, _, _, rfl, rfl, h⟩
    · have h := h.2 c
      refine xw_aload_n hf (pc := 33) dX9_costOf_33 rfl 0 rfl ?_
      refine xw_iconst hf (pc := 34) dX9_costOf_34 (v := 2) (by decide) ?_
      refine xw_callV hf (pc := 35) (nA := 1) (Xr := [(a1, .inl (gI (xg x), 27, .inl v6)), (a2, .inl (gI (xg x), 27, .inl v7)), (a3, .inl (gI (xg x), 12, .inl w6)), (a4, .inl (gI (xg x), 27, .inl w7)), (a5, .inl (gI (xg x), 27, .inl v10))]) (rest := []) (T := TX9) (c_X9_fail (xl x) (xg x) a0 a6 a1 a2 a7 a8 a9 a10 a11 a3 a4 a5 a12 a13 w3 v1 v2 v3 w5 v5 2 h) gX9_costOf_X9_fail (by rfl) rfl rfl (by decide +kernel) ⟨⟨(Nat.le_of_ble_eq_true rfl), (Nat.le_of_ble_eq_true rfl)⟩, (Nat.le_of_ble_eq_true rfl), (Nat.le_of_ble_eq_true rfl)⟩ (Nat.le_of_ble_eq_true rfl) rfl rfl (sb_of [0, 1, 2, 3, 4, 5] rfl rfl) rfl dX9_costOf_35 (fun v X1 hp => ?_)
      obtain ⟨r11, w12, rfl, rfl, h⟩ := hp
      refine xw_X (sb_of [0, 1, 2, 3, 4, 5] rfl rfl) (show ww x (W_X9_costOf (xg x) a0 a1 a2 a3 a4 a5 a6 a7 a8 a9 a10 a11 a12 a13 w12 v1 v2 v3 w5 v5 v6 v7 w6 w7 v10) [(0, .ref a0), (1, .long p1)] 0 0 38 [.int r11] from ?_)
      exact xw_iret hf (pc := 38) dX9_costOf_38 hr (Nat.le_of_ble_eq_true rfl) (Nat.le_of_ble_eq_true rfl) ⟨_, _, _, _, _, _, rfl, rfl, h⟩
abbrev W_X9_missingLetter (g : Gx) (a0 a1 a2 a3 a4 a5 a6 a7 a8 a9 a10 a11 a12 a13 : Nat) (v0 : Int32) (v1 : Int32) (v2 : Int32) (v3 : Int32) (v4 : Int32) (v5 : Int32) (v6 : Nat → Int32) (v7 : Nat → Int32) (v8 : Nat → Int32) : va_W := [(a0, .inr (9, [.int v0, .ref a4, .int v1, .ref a1, .ref a5, .ref a6, .ref a7, .ref a8, .ref a9, .ref a10, .int v2, .int v3, .ref a2, .int v4, .ref a3, .ref a11, .ref a12, .ref a13, .int v5])), (a1, .inl (gI g, 27, .inl v6)), (a2, .inl (gI g, 12, .inl v7)), (a3, .inl (gI g, 27, .inl v8))]
abbrev rm_X9_missingLetter : Room := { frames := 2, cells := 0, slots := 0, locals := 48 }
set_option maxHeartbeats 4000000 in
set_option maxRecDepth 100000 in
theorem c_X9_missingLetter (l : Launch) (g : Gx) (a0 a1 a2 a3 a4 a5 a6 a7 a8 a9 a10 a11 a12 a13 : Nat) (v0 : Int32) (v1 : Int32) (v2 : Int32) (v3 : Int32) (v4 : Int32) (v5 : Int32) (v6 : Nat → Int32) (v7 : Nat → Int32) (v8 : Nat → Int32) (p1 : Int64) {post : Int32 → Int32 → Int32 → (Nat → Int32) → (Nat → Int32) → Prop} (h : P_X9_missingLetter post p1 v0 v1 v2 v3 v4 v5 v6 v7 v8) : cm l g yX9_missingLetter wsX9_missingLetter (rm_X9_missingLetter) [.ref a0, .long p1] (W_X9_missingLetter g a0 a1 a2 a3 a4 a5 a6 a7 a8 a9 a10 a11 a12 a13 v0 v1 v2 v3 v4 v5 v6 v7 v8) (fun v X1 => ∃ (r : Int32) (uv0 : Int32) (uv4 : Int32) (uv7 : Nat → Int32) (uv8 : Nat → Int32), v = some (.int r) ∧ X1 = W_X9_missingLetter g a0 a1 a2 a3 a4 a5 a6 a7 a8 a9 a10 a11 a12 a13 uv0 v1 v2 v3 uv4 v5 v6 uv7 uv8 ∧ post r uv0 uv4 uv7 uv8) := by
  refine cm_of (cc := cX9_missingLetter) (nL := 3) (ret := (some .int)) (by decide +kernel) rfl (Nat.le_of_ble_eq_true rfl) ?_
  intro x hf hl hg hn hi hr
  subst hl
  subst hg
  show ww x (W_X9_missingLetter (xg x) a0 a1 a2 a3 a4 a5 a6 a7 a8 a9 a10 a11 a12 a13 v0 v1 v2 v3 v4 v5 v6 v7 v8) [(0, .ref a0), (1, .long p1)] 0 0 0 []
  unfold P_X9_missingLetter at h
  refine xw_aload_n hf (pc := 0) dX9_missingLetter_0 rfl 0 rfl ?_
  refine xw_lload_n hf (pc := 1) dX9_missingLetter_1 rfl 1 rfl ?_
  refine xw_callS hf (pc := 2) (nA := 1) (Xr := W_X9_missingLetter (xg x) a0 a1 a2 a3 a4 a5 a6 a7 a8 a9 a10 a11 a12 a13 v0 v1 v2 v3 v4 v5 v6 v7 v8) (rest := [.ref a0]) (c_X9_isWord (xl x) (xg x) p1 h) gX9_missingLetter_X9_isWord (by rfl) rfl (by decide +kernel) ⟨⟨(Nat.le_of_ble_eq_true rfl), (Nat.le_of_ble_eq_true rfl)⟩, (Nat.le_of_ble_eq_true rfl), (Nat.le_of_ble_eq_true rfl)⟩ (Nat.le_of_ble_eq_true rfl) (sb_rf _) rfl dX9_missingLetter_2 (fun v X1 hp => ?_)
  obtain ⟨r1, rfl, rfl, h⟩ := hp
  show ww x (W_X9_missingLetter (xg x) a0 a1 a2 a3 a4 a5 a6 a7 a8 a9 a10 a11 a12 a13 v0 v1 v2 v3 v4 v5 v6 v7 v8) [(0, .ref a0), (1, .long p1)] 0 0 5 [.int r1, .ref a0]
  refine xw_callV hf (pc := 5) (nA := 1) (Xr := [(a1, .inl (gI (xg x), 27, .inl v6)), (a2, .inl (gI (xg x), 12, .inl v7)), (a3, .inl (gI (xg x), 27, .inl v8))]) (rest := []) (T := TX9) (c_X9_isGood (xl x) (xg x) a0 a4 a1 a5 a6 a7 a8 a9 a10 a2 a3 a11 a12 a13 v0 v1 v2 v3 v4 v5 r1 h) gX9_missingLetter_X9_isGood (by rfl) rfl rfl (by decide +kernel) ⟨⟨(Nat.le_of_ble_eq_true rfl), (Nat.le_of_ble_eq_true rfl)⟩, (Nat.le_of_ble_eq_true rfl), (Nat.le_of_ble_eq_true rfl)⟩ (Nat.le_of_ble_eq_true rfl) rfl rfl (sb_of [0, 1, 2, 3] rfl rfl) rfl dX9_missingLetter_5 (fun v X1 hp => ?_)
  obtain ⟨r2, w3, rfl, rfl, h⟩ := hp
  refine xw_X (sb_of [0, 1, 2, 3] rfl rfl) (show ww x (W_X9_missingLetter (xg x) a0 a1 a2 a3 a4 a5 a6 a7 a8 a9 a10 a11 a12 a13 w3 v1 v2 v3 v4 v5 v6 v7 v8) [(0, .ref a0), (1, .long p1)] 0 0 8 [.int r2] from ?_)
  refine xw_if_ne hf (pc := 8) dX9_missingLetter_8 (c := r2 = 0) Iff.rfl (tgt := 13) rfl ⟨fun c => ?_, fun c => ?_⟩
  · have h := h.1 c
    refine xw_iconst hf (pc := 11) dX9_missingLetter_11 (v := 0) (by decide) ?_
    exact xw_iret hf (pc := 12) dX9_missingLetter_12 hr (Nat.le_of_ble_eq_true rfl) (Nat.le_of_ble_eq_true rfl) ⟨_, _, _, _, _, rfl, rfl, h⟩
  · have h := h.2 c
    refine xw_aload_n hf (pc := 13) dX9_missingLetter_13 rfl 0 rfl ?_
    refine xw_lload_n hf (pc := 14) dX9_missingLetter_14 rfl 1 rfl ?_
    refine xw_callV hf (pc := 15) (nA := 1) (Xr := [(a1, .inl (gI (xg x), 27, .inl v6))]) (rest := []) (T := TX9) (c_X9_spell (xl x) (xg x) a0 a2 a3 a4 a1 a5 a6 a7 a8 a9 a10 a11 a12 a13 w3 v1 v2 v3 v4 v5 v7 v8 p1 h) gX9_missingLetter_X9_spell (by rfl) rfl rfl (by decide +kernel) ⟨⟨(Nat.le_of_ble_eq_true rfl), (Nat.le_of_ble_eq_true rfl)⟩, (Nat.le_of_ble_eq_true rfl), (Nat.le_of_ble_eq_true rfl)⟩ (Nat.le_of_ble_eq_true rfl) rfl rfl (sb_of [0, 2, 3, 1] rfl rfl) rfl dX9_missingLetter_15 (fun v X1 hp => ?_)
    obtain ⟨w5, w6, w7, rfl, rfl, h⟩ := hp
    refine xw_X (sb_of [0, 3, 1, 2] rfl rfl) (show ww x (W_X9_missingLetter (xg x) a0 a1 a2 a3 a4 a5 a6 a7 a8 a9 a10 a11 a12 a13 w3 v1 v2 v3 w5 v5 v6 w6 w7) [(0, .ref a0), (1, .long p1)] 0 0 18 [] from ?_)
    refine xw_aload_n hf (pc := 18) dX9_missingLetter_18 rfl 0 rfl ?_
    refine xw_callV hf (pc := 19) (nA := 0) (Xr := [(a2, .inl (gI (xg x), 12, .inl w6))]) (rest := []) (T := TX9) (c_X9_missing (xl x) (xg x) a0 a1 a3 a4 a5 a6 a7 a8 a9 a10 a2 a11 a12 a13 w3 v1 v2 v3 w5 v5 v6 w7 h) gX9_missingLetter_X9_missing (by rfl) rfl rfl (by decide +kernel) ⟨⟨(Nat.le_of_ble_eq_true rfl), (Nat.le_of_ble_eq_true rfl)⟩, (Nat.le_of_ble_eq_true rfl), (Nat.le_of_ble_eq_true rfl)⟩ (Nat.le_of_ble_eq_true rfl) rfl rfl (sb_of [0, 1, 3, 2] rfl rfl) rfl dX9_missingLetter_19 (fun v X1 hp => ?_)
    obtain ⟨r8, rfl, rfl, h⟩ := hp
    refine xw_X (sb_of [0, 1, 3, 2] rfl rfl) (show ww x (W_X9_missingLetter (xg x) a0 a1 a2 a3 a4 a5 a6 a7 a8 a9 a10 a11 a12 a13 w3 v1 v2 v3 w5 v5 v6 w6 w7) [(0, .ref a0), (1, .long p1)] 0 0 22 [.int r8] from ?_)
    exact xw_iret hf (pc := 22) dX9_missingLetter_22 hr (Nat.le_of_ble_eq_true rfl) (Nat.le_of_ble_eq_true rfl) ⟨_, _, _, _, _, rfl, rfl, h⟩
abbrev W_X9_refusal (g : Gx) (a0 a1 a2 a3 a4 a5 a6 a7 a8 a9 a10 a11 a12 a13 : Nat) (v0 : Int32) (v1 : Int32) (v2 : Int32) (v3 : Int32) (v4 : Int32) (v5 : Int32) (v6 : Nat → Int64) (v7 : Nat → Int32) (v8 : Nat → Int32) (v9 : Nat → Int32) (v10 : Nat → Int32) (v11 : Nat → Int32) : va_W := [(a0, .inr (9, [.int v0, .ref a1, .int v1, .ref a2, .ref a3, .ref a7, .ref a8, .ref a9, .ref a10, .ref a11, .int v2, .int v3, .ref a4, .int v4, .ref a5, .ref a6, .ref a12, .ref a13, .int v5])), (a1, .inl (gJ g, 60, .inr (.inl v6))), (a2, .inl (gI g, 27, .inl v7)), (a3, .inl (gI g, 27, .inl v8)), (a4, .inl (gI g, 12, .inl v9)), (a5, .inl (gI g, 27, .inl v10)), (a6, .inl (gI g, 27, .inl v11))]
abbrev rm_X9_refusal : Room := { frames := 3, cells := 0, slots := 0, locals := 67 }
set_option maxHeartbeats 4000000 in
set_option maxRecDepth 100000 in
theorem c_X9_refusal (l : Launch) (g : Gx) (a0 a1 a2 a3 a4 a5 a6 a7 a8 a9 a10 a11 a12 a13 : Nat) (v0 : Int32) (v1 : Int32) (v2 : Int32) (v3 : Int32) (v4 : Int32) (v5 : Int32) (v6 : Nat → Int64) (v7 : Nat → Int32) (v8 : Nat → Int32) (v9 : Nat → Int32) (v10 : Nat → Int32) (v11 : Nat → Int32) (p1 : Int64) (p3 : Int32) {post : Int32 → Int32 → (Nat → Int32) → (Nat → Int32) → (Nat → Int32) → Prop} (h : P_X9_refusal post p1 p3 v0 v1 v2 v3 v4 v5 v6 v7 v8 v9 v10 v11) : cm l g yX9_refusal wsX9_refusal (rm_X9_refusal) [.ref a0, .long p1, .int p3] (W_X9_refusal g a0 a1 a2 a3 a4 a5 a6 a7 a8 a9 a10 a11 a12 a13 v0 v1 v2 v3 v4 v5 v6 v7 v8 v9 v10 v11) (fun v X1 => ∃ (r : Int32) (uv4 : Int32) (uv9 : Nat → Int32) (uv10 : Nat → Int32) (uv11 : Nat → Int32), v = some (.int r) ∧ X1 = W_X9_refusal g a0 a1 a2 a3 a4 a5 a6 a7 a8 a9 a10 a11 a12 a13 v0 v1 v2 v3 uv4 v5 v6 v7 v8 uv9 uv10 uv11 ∧ post r uv4 uv9 uv10 uv11) := by
  refine cm_of (cc := cX9_refusal) (nL := 4) (ret := (some .int)) (by decide +kernel) rfl (Nat.le_of_ble_eq_true rfl) ?_
  intro x hf hl hg hn hi hr
  subst hl
  subst hg
  show ww x (W_X9_refusal (xg x) a0 a1 a2 a3 a4 a5 a6 a7 a8 a9 a10 a11 a12 a13 v0 v1 v2 v3 v4 v5 v6 v7 v8 v9 v10 v11) [(0, .ref a0), (1, .long p1), (3, .int p3)] 0 0 0 []
  unfold P_X9_refusal at h
  refine xw_aload_n hf (pc := 0) dX9_refusal_0 rfl 0 rfl ?_
  refine xw_lload_n hf (pc := 1) dX9_refusal_1 rfl 1 rfl ?_
  refine xw_callV hf (pc := 2) (nA := 1) (Xr := [(a1, .inl (gJ (xg x), 60, .inr (.inl v6))), (a2, .inl (gI (xg x), 27, .inl v7)), (a3, .inl (gI (xg x), 27, .inl v8)), (a6, .inl (gI (xg x), 27, .inl v11))]) (rest := []) (T := TX9) (c_X9_spell (xl x) (xg x) a0 a4 a5 a1 a2 a3 a7 a8 a9 a10 a11 a6 a12 a13 v0 v1 v2 v3 v4 v5 v9 v10 p1 h) gX9_refusal_X9_spell (by rfl) rfl rfl (by decide +kernel) ⟨⟨(Nat.le_of_ble_eq_true rfl), (Nat.le_of_ble_eq_true rfl)⟩, (Nat.le_of_ble_eq_true rfl), (Nat.le_of_ble_eq_true rfl)⟩ (Nat.le_of_ble_eq_true rfl) rfl rfl (sb_of [0, 4, 5, 1, 2, 3, 6] rfl rfl) rfl dX9_refusal_2 (fun v X1 hp => ?_)
  obtain ⟨w2, w3, w4, rfl, rfl, h⟩ := hp
  refine xw_X (sb_of [0, 3, 4, 5, 1, 2, 6] rfl rfl) (show ww x (W_X9_refusal (xg x) a0 a1 a2 a3 a4 a5 a6 a7 a8 a9 a10 a11 a12 a13 v0 v1 v2 v3 w2 v5 v6 v7 v8 w3 w4 v11) [(0, .ref a0), (1, .long p1), (3, .int p3)] 0 0 5 [] from ?_)
  refine xw_aload_n hf (pc := 5) dX9_refusal_5 rfl 0 rfl ?_
  refine xw_lload_n hf (pc := 6) dX9_refusal_6 rfl 1 rfl ?_
  refine xw_callV hf (pc := 7) (nA := 1) (Xr := [(a2, .inl (gI (xg x), 27, .inl v7)), (a3, .inl (gI (xg x), 27, .inl v8)), (a4, .inl (gI (xg x), 12, .inl w3)), (a5, .inl (gI (xg x), 27, .inl w4)), (a6, .inl (gI (xg x), 27, .inl v11))]) (rest := []) (T := TX9) (c_X9_placeOf (xl x) (xg x) a0 a1 a2 a3 a7 a8 a9 a10 a11 a4 a5 a6 a12 a13 v0 v1 v2 v3 w2 v5 v6 p1 h) gX9_refusal_X9_placeOf (by rfl) rfl rfl (by decide +kernel) ⟨⟨(Nat.le_of_ble_eq_true rfl), (Nat.le_of_ble_eq_true rfl)⟩, (Nat.le_of_ble_eq_true rfl), (Nat.le_of_ble_eq_true rfl)⟩ (Nat.le_of_ble_eq_true rfl) rfl rfl (sb_of [0, 1, 2, 3, 4, 5, 6] rfl rfl) rfl dX9_refusal_7 (fun v X1 hp => ?_)
  obtain ⟨r5, rfl, rfl, h⟩ := hp
  refine xw_X (sb_of [0, 1, 2, 3, 4, 5, 6] rfl rfl) (show ww x (W_X9_refusal (xg x) a0 a1 a2 a3 a4 a5 a6 a7 a8 a9 a10 a11 a12 a13 v0 v1 v2 v3 w2 v5 v6 v7 v8 w3 w4 v11) [(0, .ref a0), (1, .long p1), (3, .int p3)] 0 0 10 [.int r5] from ?_)
  refine xw_iconst hf (pc := 10) dX9_refusal_10 (v := (-1)) (by decide) ?_
  refine xw_icmp_ne hf (pc := 11) dX9_refusal_11 (tgt := 16) rfl ⟨fun c => ?_, fun c => ?_⟩
  · have h := h.1 c
    refine xw_iconst hf (pc := 14) dX9_refusal_14 (v := 1) (by decide) ?_
    exact xw_iret hf (pc := 15) dX9_refusal_15 hr (Nat.le_of_ble_eq_true rfl) (Nat.le_of_ble_eq_true rfl) ⟨_, _, _, _, _, rfl, rfl, h⟩
  · have h := h.2 c
    refine xw_aload_n hf (pc := 16) dX9_refusal_16 rfl 0 rfl ?_
    refine xw_callV hf (pc := 17) (nA := 0) (Xr := [(a1, .inl (gJ (xg x), 60, .inr (.inl v6))), (a3, .inl (gI (xg x), 27, .inl v8)), (a4, .inl (gI (xg x), 12, .inl w3)), (a6, .inl (gI (xg x), 27, .inl v11))]) (rest := []) (T := TX9) (c_X9_missing (xl x) (xg x) a0 a2 a5 a1 a3 a7 a8 a9 a10 a11 a4 a6 a12 a13 v0 v1 v2 v3 w2 v5 v7 w4 h) gX9_refusal_X9_missing (by rfl) rfl rfl (by decide +kernel) ⟨⟨(Nat.le_of_ble_eq_true rfl), (Nat.le_of_ble_eq_true rfl)⟩, (Nat.le_of_ble_eq_true rfl), (Nat.le_of_ble_eq_true rfl)⟩ (Nat.le_of_ble_eq_true rfl) rfl rfl (sb_of [0, 2, 5, 1, 3, 4, 6] rfl rfl) rfl dX9_refusal_17 (fun v X1 hp => ?_)
    obtain ⟨r6, rfl, rfl, h⟩ := hp
    refine xw_X (sb_of [0, 3, 1, 4, 5, 2, 6] rfl rfl) (show ww x (W_X9_refusal (xg x) a0 a1 a2 a3 a4 a5 a6 a7 a8 a9 a10 a11 a12 a13 v0 v1 v2 v3 w2 v5 v6 v7 v8 w3 w4 v11) [(0, .ref a0), (1, .long p1), (3, .int p3)] 0 0 20 [.int r6] from ?_)
    refine xw_iconst hf (pc := 20) dX9_refusal_20 (v := (-1)) (by decide) ?_
    refine xw_icmp_eq hf (pc := 21) dX9_refusal_21 (tgt := 26) rfl ⟨fun c => ?_, fun c => ?_⟩
    · have h := h.1 c
      refine xw_aload_n hf (pc := 26) dX9_refusal_26 rfl 0 rfl ?_
      refine xw_callV hf (pc := 27) (nA := 0) (Xr := [(a1, .inl (gJ (xg x), 60, .inr (.inl v6))), (a5, .inl (gI (xg x), 27, .inl w4))]) (rest := []) (T := TX9) (c_X9_cost (xl x) (xg x) a0 a2 a3 a4 a6 a1 a7 a8 a9 a10 a11 a5 a12 a13 v0 v1 v2 v3 w2 v5 v7 v8 w3 v11 h) gX9_refusal_X9_cost (by rfl) rfl rfl (by decide +kernel) ⟨⟨(Nat.le_of_ble_eq_true rfl), (Nat.le_of_ble_eq_true rfl)⟩, (Nat.le_of_ble_eq_true rfl), (Nat.le_of_ble_eq_true rfl)⟩ (Nat.le_of_ble_eq_true rfl) rfl rfl (sb_of [0, 2, 3, 4, 6, 1, 5] rfl rfl) rfl dX9_refusal_27 (fun v X1 hp => ?_)
      obtain ⟨r7, w8, rfl, rfl, h⟩ := hp
      refine xw_X (sb_of [0, 5, 1, 2, 3, 6, 4] rfl rfl) (show ww x (W_X9_refusal (xg x) a0 a1 a2 a3 a4 a5 a6 a7 a8 a9 a10 a11 a12 a13 v0 v1 v2 v3 w2 v5 v6 v7 v8 w3 w4 w8) [(0, .ref a0), (1, .long p1), (3, .int p3)] 0 0 30 [.int r7] from ?_)
      refine xw_iload_n hf (pc := 30) dX9_refusal_30 rfl 2 rfl ?_
      refine xw_icmp_le hf (pc := 31) dX9_refusal_31 (tgt := 38) rfl ⟨fun c => ?_, fun c => ?_⟩
      · have h := h.1 c
        refine xw_iconst hf (pc := 38) dX9_refusal_38 (v := 0) (by decide) ?_
        exact xw_iret hf (pc := 39) dX9_refusal_39 hr (Nat.le_of_ble_eq_true rfl) (Nat.le_of_ble_eq_true rfl) ⟨_, _, _, _, _, rfl, rfl, h⟩
      · have h := h.2 c
        refine xw_iconst hf (pc := 34) dX9_refusal_34 (v := 3) (by decide) ?_
        refine xw_goto hf (pc := 35) dX9_refusal_35 (tgt := 39) rfl ?_
        exact xw_iret hf (pc := 39) dX9_refusal_39 hr (Nat.le_of_ble_eq_true rfl) (Nat.le_of_ble_eq_true rfl) ⟨_, _, _, _, _, rfl, rfl, h⟩
    · have h := h.2 c
      refine xw_iconst hf (pc := 24) dX9_refusal_24 (v := 2) (by decide) ?_
      exact xw_iret hf (pc := 25) dX9_refusal_25 hr (Nat.le_of_ble_eq_true rfl) (Nat.le_of_ble_eq_true rfl) ⟨_, _, _, _, _, rfl, rfl, h⟩
abbrev W_X9_isBudget (g : Gx) (a0 : Nat) : va_W := []
abbrev rm_X9_isBudget : Room := { frames := 1, cells := 0, slots := 0, locals := 22 }
theorem mw_X9_isBudget_0 : (Cond.constant RX9 149 (99999) : Cond) ∈ wsX9_isBudget := (List.mem_cons_of_mem _ (List.mem_of_getElem? (i := 0) rfl))
set_option maxHeartbeats 4000000 in
set_option maxRecDepth 100000 in
theorem c_X9_isBudget (l : Launch) (g : Gx) (a0 : Nat) (p1 : Int32) {post : Int32 → Prop} (h : P_X9_isBudget post p1 ) : cm l g yX9_isBudget wsX9_isBudget (rm_X9_isBudget) [.ref a0, .int p1] (W_X9_isBudget g a0) (fun v X1 => ∃ (r : Int32), v = some (.int r) ∧ X1 = W_X9_isBudget g a0 ∧ post r) := by
  refine cm_of (cc := cX9_isBudget) (nL := 2) (ret := (some .boolean)) (by decide +kernel) rfl (Nat.le_of_ble_eq_true rfl) ?_
  intro x hf hl hg hn hi hr
  subst hl
  subst hg
  show ww x (W_X9_isBudget (xg x) a0) [(0, .ref a0), (1, .int p1)] 0 0 0 []
  unfold P_X9_isBudget at h
  refine xw_iload_n hf (pc := 0) dX9_isBudget_0 rfl 1 rfl ?_
  refine xw_iconst hf (pc := 1) dX9_isBudget_1 (v := 0) (by decide) ?_
  refine xw_ldc hf (pc := 2) dX9_isBudget_2 mw_X9_isBudget_0 ?_
  refine xw_callS hf (pc := 4) (nA := 3) (Xr := W_X9_isBudget (xg x) a0) (rest := []) (c_X9_isWithin (xl x) (xg x) p1 0 99999 h) gX9_isBudget_X9_isWithin (by rfl) rfl (by decide +kernel) ⟨⟨(Nat.le_of_ble_eq_true rfl), (Nat.le_of_ble_eq_true rfl)⟩, (Nat.le_of_ble_eq_true rfl), (Nat.le_of_ble_eq_true rfl)⟩ (Nat.le_of_ble_eq_true rfl) (sb_rf _) rfl dX9_isBudget_4 (fun v X1 hp => ?_)
  obtain ⟨r1, rfl, rfl, h⟩ := hp
  show ww x (W_X9_isBudget (xg x) a0) [(0, .ref a0), (1, .int p1)] 0 0 7 [.int r1]
  exact xw_zret hf (pc := 7) dX9_isBudget_7 hr (Nat.le_of_ble_eq_true rfl) (Nat.le_of_ble_eq_true rfl) h.1 ⟨_, rfl, rfl, h.2⟩
abbrev W_X9_refusalOf (g : Gx) (a0 a1 a2 a3 a4 a5 a6 a7 a8 a9 a10 a11 a12 a13 : Nat) (v0 : Int32) (v1 : Int32) (v2 : Int32) (v3 : Int32) (v4 : Int32) (v5 : Int32) (v6 : Nat → Int64) (v7 : Nat → Int32) (v8 : Nat → Int32) (v9 : Nat → Int32) (v10 : Nat → Int32) (v11 : Nat → Int32) : va_W := [(a0, .inr (9, [.int v0, .ref a1, .int v1, .ref a2, .ref a3, .ref a7, .ref a8, .ref a9, .ref a10, .ref a11, .int v2, .int v3, .ref a4, .int v4, .ref a5, .ref a6, .ref a12, .ref a13, .int v5])), (a1, .inl (gJ g, 60, .inr (.inl v6))), (a2, .inl (gI g, 27, .inl v7)), (a3, .inl (gI g, 27, .inl v8)), (a4, .inl (gI g, 12, .inl v9)), (a5, .inl (gI g, 27, .inl v10)), (a6, .inl (gI g, 27, .inl v11))]
abbrev rm_X9_refusalOf : Room := { frames := 4, cells := 0, slots := 0, locals := 90 }
set_option maxHeartbeats 4000000 in
set_option maxRecDepth 100000 in
theorem c_X9_refusalOf (l : Launch) (g : Gx) (a0 a1 a2 a3 a4 a5 a6 a7 a8 a9 a10 a11 a12 a13 : Nat) (v0 : Int32) (v1 : Int32) (v2 : Int32) (v3 : Int32) (v4 : Int32) (v5 : Int32) (v6 : Nat → Int64) (v7 : Nat → Int32) (v8 : Nat → Int32) (v9 : Nat → Int32) (v10 : Nat → Int32) (v11 : Nat → Int32) (p1 : Int64) (p3 : Int32) {post : Int32 → Int32 → Int32 → (Nat → Int32) → (Nat → Int32) → (Nat → Int32) → Prop} (h : P_X9_refusalOf post p1 p3 v0 v1 v2 v3 v4 v5 v6 v7 v8 v9 v10 v11) : cm l g yX9_refusalOf wsX9_refusalOf (rm_X9_refusalOf) [.ref a0, .long p1, .int p3] (W_X9_refusalOf g a0 a1 a2 a3 a4 a5 a6 a7 a8 a9 a10 a11 a12 a13 v0 v1 v2 v3 v4 v5 v6 v7 v8 v9 v10 v11) (fun v X1 => ∃ (r : Int32) (uv0 : Int32) (uv4 : Int32) (uv9 : Nat → Int32) (uv10 : Nat → Int32) (uv11 : Nat → Int32), v = some (.int r) ∧ X1 = W_X9_refusalOf g a0 a1 a2 a3 a4 a5 a6 a7 a8 a9 a10 a11 a12 a13 uv0 v1 v2 v3 uv4 v5 v6 v7 v8 uv9 uv10 uv11 ∧ post r uv0 uv4 uv9 uv10 uv11) := by
  refine cm_of (cc := cX9_refusalOf) (nL := 4) (ret := (some .int)) (by decide +kernel) rfl (Nat.le_of_ble_eq_true rfl) ?_
  intro x hf hl hg hn hi hr
  subst hl
  subst hg
  show ww x (W_X9_refusalOf (xg x) a0 a1 a2 a3 a4 a5 a6 a7 a8 a9 a10 a11 a12 a13 v0 v1 v2 v3 v4 v5 v6 v7 v8 v9 v10 v11) [(0, .ref a0), (1, .long p1), (3, .int p3)] 0 0 0 []
  unfold P_X9_refusalOf at h
  refine xw_aload_n hf (pc := 0) dX9_refusalOf_0 rfl 0 rfl ?_
  refine xw_lload_n hf (pc := 1) dX9_refusalOf_1 rfl 1 rfl ?_
  refine xw_callS hf (pc := 2) (nA := 1) (Xr := W_X9_refusalOf (xg x) a0 a1 a2 a3 a4 a5 a6 a7 a8 a9 a10 a11 a12 a13 v0 v1 v2 v3 v4 v5 v6 v7 v8 v9 v10 v11) (rest := [.ref a0]) (c_X9_isWord (xl x) (xg x) p1 h) gX9_refusalOf_X9_isWord (by rfl) rfl (by decide +kernel) ⟨⟨(Nat.le_of_ble_eq_true rfl), (Nat.le_of_ble_eq_true rfl)⟩, (Nat.le_of_ble_eq_true rfl), (Nat.le_of_ble_eq_true rfl)⟩ (Nat.le_of_ble_eq_true rfl) (sb_rf _) rfl dX9_refusalOf_2 (fun v X1 hp => ?_)
  obtain ⟨r1, rfl, rfl, h⟩ := hp
  show ww x (W_X9_refusalOf (xg x) a0 a1 a2 a3 a4 a5 a6 a7 a8 a9 a10 a11 a12 a13 v0 v1 v2 v3 v4 v5 v6 v7 v8 v9 v10 v11) [(0, .ref a0), (1, .long p1), (3, .int p3)] 0 0 5 [.int r1, .ref a0]
  refine xw_if_eq hf (pc := 5) dX9_refusalOf_5 (c := r1 = 0) Iff.rfl (tgt := 20) rfl ⟨fun c => ?_, fun c => ?_⟩
  · have h := h.1 c
    refine xw_iconst hf (pc := 20) dX9_refusalOf_20 (v := 0) (by decide) ?_
    refine xw_callV hf (pc := 21) (nA := 1) (Xr := [(a1, .inl (gJ (xg x), 60, .inr (.inl v6))), (a2, .inl (gI (xg x), 27, .inl v7)), (a3, .inl (gI (xg x), 27, .inl v8)), (a4, .inl (gI (xg x), 12, .inl v9)), (a5, .inl (gI (xg x), 27, .inl v10)), (a6, .inl (gI (xg x), 27, .inl v11))]) (rest := []) (T := TX9) (c_X9_isGood (xl x) (xg x) a0 a1 a2 a3 a7 a8 a9 a10 a11 a4 a5 a6 a12 a13 v0 v1 v2 v3 v4 v5 0 h) gX9_refusalOf_X9_isGood (by rfl) rfl rfl (by decide +kernel) ⟨⟨(Nat.le_of_ble_eq_true rfl), (Nat.le_of_ble_eq_true rfl)⟩, (Nat.le_of_ble_eq_true rfl), (Nat.le_of_ble_eq_true rfl)⟩ (Nat.le_of_ble_eq_true rfl) rfl rfl (sb_of [0, 1, 2, 3, 4, 5, 6] rfl rfl) rfl dX9_refusalOf_21 (fun v X1 hp => ?_)
    obtain ⟨r2, w3, rfl, rfl, h⟩ := hp
    refine xw_X (sb_of [0, 1, 2, 3, 4, 5, 6] rfl rfl) (show ww x (W_X9_refusalOf (xg x) a0 a1 a2 a3 a4 a5 a6 a7 a8 a9 a10 a11 a12 a13 w3 v1 v2 v3 v4 v5 v6 v7 v8 v9 v10 v11) [(0, .ref a0), (1, .long p1), (3, .int p3)] 0 0 24 [.int r2] from ?_)
    refine xw_if_eq hf (pc := 24) dX9_refusalOf_24 (c := r2 = 0) Iff.rfl (tgt := 36) rfl ⟨fun c => ?_, fun c => ?_⟩
    · have h := h.1 c
      refine xw_iconst hf (pc := 36) dX9_refusalOf_36 (v := 0) (by decide) ?_
      exact xw_iret hf (pc := 37) dX9_refusalOf_37 hr (Nat.le_of_ble_eq_true rfl) (Nat.le_of_ble_eq_true rfl) ⟨_, _, _, _, _, _, rfl, rfl, h⟩
    · have h := h.2 c
      refine xw_aload_n hf (pc := 27) dX9_refusalOf_27 rfl 0 rfl ?_
      refine xw_lload_n hf (pc := 28) dX9_refusalOf_28 rfl 1 rfl ?_
      refine xw_iload_n hf (pc := 29) dX9_refusalOf_29 rfl 2 rfl ?_
      refine xw_callV hf (pc := 30) (nA := 2) (Xr := []) (rest := []) (T := TX9) (c_X9_refusal (xl x) (xg x) a0 a1 a2 a3 a4 a5 a6 a7 a8 a9 a10 a11 a12 a13 w3 v1 v2 v3 v4 v5 v6 v7 v8 v9 v10 v11 p1 p3 h) gX9_refusalOf_X9_refusal (by rfl) rfl rfl (by decide +kernel) ⟨⟨(Nat.le_of_ble_eq_true rfl), (Nat.le_of_ble_eq_true rfl)⟩, (Nat.le_of_ble_eq_true rfl), (Nat.le_of_ble_eq_true rfl)⟩ (Nat.le_of_ble_eq_true rfl) rfl rfl (sb_of [0, 1, 2, 3, 4, 5, 6] rfl rfl) rfl dX9_refusalOf_30 (fun v X1 hp => ?_)
      obtain ⟨r4, w5, w6, w7, w8, rfl, rfl, h⟩ := hp
      refine xw_X (sb_of [0, 1, 2, 3, 4, 5, 6] rfl rfl) (show ww x (W_X9_refusalOf (xg x) a0 a1 a2 a3 a4 a5 a6 a7 a8 a9 a10 a11 a12 a13 w3 v1 v2 v3 w5 v5 v6 v7 v8 w6 w7 w8) [(0, .ref a0), (1, .long p1), (3, .int p3)] 0 0 33 [.int r4] from ?_)
      refine xw_goto hf (pc := 33) dX9_refusalOf_33 (tgt := 37) rfl ?_
      exact xw_iret hf (pc := 37) dX9_refusalOf_37 hr (Nat.le_of_ble_eq_true rfl) (Nat.le_of_ble_eq_true rfl) ⟨_, _, _, _, _, _, rfl, rfl, h⟩
  · have h := h.2 c
    refine xw_aload_n hf (pc := 8) dX9_refusalOf_8 rfl 0 rfl ?_
    refine xw_iload_n hf (pc := 9) dX9_refusalOf_9 rfl 2 rfl ?_
    refine xw_callV hf (pc := 10) (nA := 1) (Xr := [(a0, .inr (9, [.int v0, .ref a1, .int v1, .ref a2, .ref a3, .ref a7, .ref a8, .ref a9, .ref a10, .ref a11, .int v2, .int v3, .ref a4, .int v4, .ref a5, .ref a6, .ref a12, .ref a13, .int v5])), (a1, .inl (gJ (xg x), 60, .inr (.inl v6))), (a2, .inl (gI (xg x), 27, .inl v7)), (a3, .inl (gI (xg x), 27, .inl v8)), (a4, .inl (gI (xg x), 12, .inl v9)), (a5, .inl (gI (xg x), 27, .inl v10)), (a6, .inl (gI (xg x), 27, .inl v11))]) (rest := [.ref a0]) (T := TX9) (c_X9_isBudget (xl x) (xg x) a0 p3 h) gX9_refusalOf_X9_isBudget (by rfl) rfl rfl (by decide +kernel) ⟨⟨(Nat.le_of_ble_eq_true rfl), (Nat.le_of_ble_eq_true rfl)⟩, (Nat.le_of_ble_eq_true rfl), (Nat.le_of_ble_eq_true rfl)⟩ (Nat.le_of_ble_eq_true rfl) rfl rfl (sb_rf _) rfl dX9_refusalOf_10 (fun v X1 hp => ?_)
    obtain ⟨r9, rfl, rfl, h⟩ := hp
    show ww x (W_X9_refusalOf (xg x) a0 a1 a2 a3 a4 a5 a6 a7 a8 a9 a10 a11 a12 a13 v0 v1 v2 v3 v4 v5 v6 v7 v8 v9 v10 v11) [(0, .ref a0), (1, .long p1), (3, .int p3)] 0 0 13 [.int r9, .ref a0]
    refine xw_if_eq hf (pc := 13) dX9_refusalOf_13 (c := r9 = 0) Iff.rfl (tgt := 20) rfl ⟨fun c => ?_, fun c => ?_⟩
    · have h := h.1 c
      refine xw_iconst hf (pc := 20) dX9_refusalOf_20 (v := 0) (by decide) ?_
      refine xw_callV hf (pc := 21) (nA := 1) (Xr := [(a1, .inl (gJ (xg x), 60, .inr (.inl v6))), (a2, .inl (gI (xg x), 27, .inl v7)), (a3, .inl (gI (xg x), 27, .inl v8)), (a4, .inl (gI (xg x), 12, .inl v9)), (a5, .inl (gI (xg x), 27, .inl v10)), (a6, .inl (gI (xg x), 27, .inl v11))]) (rest := []) (T := TX9) (c_X9_isGood (xl x) (xg x) a0 a1 a2 a3 a7 a8 a9 a10 a11 a4 a5 a6 a12 a13 v0 v1 v2 v3 v4 v5 0 h) gX9_refusalOf_X9_isGood (by rfl) rfl rfl (by decide +kernel) ⟨⟨(Nat.le_of_ble_eq_true rfl), (Nat.le_of_ble_eq_true rfl)⟩, (Nat.le_of_ble_eq_true rfl), (Nat.le_of_ble_eq_true rfl)⟩ (Nat.le_of_ble_eq_true rfl) rfl rfl (sb_of [0, 1, 2, 3, 4, 5, 6] rfl rfl) rfl dX9_refusalOf_21 (fun v X1 hp => ?_)
      obtain ⟨r10, w11, rfl, rfl, h⟩ := hp
      refine xw_X (sb_of [0, 1, 2, 3, 4, 5, 6] rfl rfl) (show ww x (W_X9_refusalOf (xg x) a0 a1 a2 a3 a4 a5 a6 a7 a8 a9 a10 a11 a12 a13 w11 v1 v2 v3 v4 v5 v6 v7 v8 v9 v10 v11) [(0, .ref a0), (1, .long p1), (3, .int p3)] 0 0 24 [.int r10] from ?_)
      refine xw_if_eq hf (pc := 24) dX9_refusalOf_24 (c := r10 = 0) Iff.rfl (tgt := 36) rfl ⟨fun c => ?_, fun c => ?_⟩
      · have h := h.1 c
        refine xw_iconst hf (pc := 36) dX9_refusalOf_36 (v := 0) (by decide) ?_
        exact xw_iret hf (pc := 37) dX9_refusalOf_37 hr (Nat.le_of_ble_eq_true rfl) (Nat.le_of_ble_eq_true rfl) ⟨_, _, _, _, _, _, rfl, rfl, h⟩
      · have h := h.2 c
        refine xw_aload_n hf (pc := 27) dX9_refusalOf_27 rfl 0 rfl ?_
        refine xw_lload_n hf (pc := 28) dX9_refusalOf_28 rfl 1 rfl ?_
        refine xw_iload_n hf (pc := 29) dX9_refusalOf_29 rfl 2 rfl ?_
        refine xw_callV hf (pc := 30) (nA := 2) (Xr := []) (rest := []) (T := TX9) (c_X9_refusal (xl x) (xg x) a0 a1 a2 a3 a4 a5 a6 a7 a8 a9 a10 a11 a12 a13 w11 v1 v2 v3 v4 v5 v6 v7 v8 v9 v10 v11 p1 p3 h) gX9_refusalOf_X9_refusal (by rfl) rfl rfl (by decide +kernel) ⟨⟨(Nat.le_of_ble_eq_true rfl), (Nat.le_of_ble_eq_true rfl)⟩, (Nat.le_of_ble_eq_true rfl), (Nat.le_of_ble_eq_true rfl)⟩ (Nat.le_of_ble_eq_true rfl) rfl rfl (sb_of [0, 1, 2, 3, 4, 5, 6] rfl rfl) rfl dX9_refusalOf_30 (fun v X1 hp => ?_)
        obtain ⟨r12, w13, w14, w15, w16, rfl, rfl, h⟩ := hp
        refine xw_X (sb_of [0, 1, 2, 3, 4, 5, 6] rfl rfl) (show ww x (W_X9_refusalOf (xg x) a0 a1 a2 a3 a4 a5 a6 a7 a8 a9 a10 a11 a12 a13 w11 v1 v2 v3 w13 v5 v6 v7 v8 w14 w15 w16) [(0, .ref a0), (1, .long p1), (3, .int p3)] 0 0 33 [.int r12] from ?_)
        refine xw_goto hf (pc := 33) dX9_refusalOf_33 (tgt := 37) rfl ?_
        exact xw_iret hf (pc := 37) dX9_refusalOf_37 hr (Nat.le_of_ble_eq_true rfl) (Nat.le_of_ble_eq_true rfl) ⟨_, _, _, _, _, _, rfl, rfl, h⟩
    · have h := h.2 c
      refine xw_iconst hf (pc := 16) dX9_refusalOf_16 (v := 1) (by decide) ?_
      refine xw_goto hf (pc := 17) dX9_refusalOf_17 (tgt := 21) rfl ?_
      refine xw_callV hf (pc := 21) (nA := 1) (Xr := [(a1, .inl (gJ (xg x), 60, .inr (.inl v6))), (a2, .inl (gI (xg x), 27, .inl v7)), (a3, .inl (gI (xg x), 27, .inl v8)), (a4, .inl (gI (xg x), 12, .inl v9)), (a5, .inl (gI (xg x), 27, .inl v10)), (a6, .inl (gI (xg x), 27, .inl v11))]) (rest := []) (T := TX9) (c_X9_isGood (xl x) (xg x) a0 a1 a2 a3 a7 a8 a9 a10 a11 a4 a5 a6 a12 a13 v0 v1 v2 v3 v4 v5 1 h) gX9_refusalOf_X9_isGood (by rfl) rfl rfl (by decide +kernel) ⟨⟨(Nat.le_of_ble_eq_true rfl), (Nat.le_of_ble_eq_true rfl)⟩, (Nat.le_of_ble_eq_true rfl), (Nat.le_of_ble_eq_true rfl)⟩ (Nat.le_of_ble_eq_true rfl) rfl rfl (sb_of [0, 1, 2, 3, 4, 5, 6] rfl rfl) rfl dX9_refusalOf_21 (fun v X1 hp => ?_)
      obtain ⟨r17, w18, rfl, rfl, h⟩ := hp
      refine xw_X (sb_of [0, 1, 2, 3, 4, 5, 6] rfl rfl) (show ww x (W_X9_refusalOf (xg x) a0 a1 a2 a3 a4 a5 a6 a7 a8 a9 a10 a11 a12 a13 w18 v1 v2 v3 v4 v5 v6 v7 v8 v9 v10 v11) [(0, .ref a0), (1, .long p1), (3, .int p3)] 0 0 24 [.int r17] from ?_)
      refine xw_if_eq hf (pc := 24) dX9_refusalOf_24 (c := r17 = 0) Iff.rfl (tgt := 36) rfl ⟨fun c => ?_, fun c => ?_⟩
      · have h := h.1 c
        refine xw_iconst hf (pc := 36) dX9_refusalOf_36 (v := 0) (by decide) ?_
        exact xw_iret hf (pc := 37) dX9_refusalOf_37 hr (Nat.le_of_ble_eq_true rfl) (Nat.le_of_ble_eq_true rfl) ⟨_, _, _, _, _, _, rfl, rfl, h⟩
      · have h := h.2 c
        refine xw_aload_n hf (pc := 27) dX9_refusalOf_27 rfl 0 rfl ?_
        refine xw_lload_n hf (pc := 28) dX9_refusalOf_28 rfl 1 rfl ?_
        refine xw_iload_n hf (pc := 29) dX9_refusalOf_29 rfl 2 rfl ?_
        refine xw_callV hf (pc := 30) (nA := 2) (Xr := []) (rest := []) (T := TX9) (c_X9_refusal (xl x) (xg x) a0 a1 a2 a3 a4 a5 a6 a7 a8 a9 a10 a11 a12 a13 w18 v1 v2 v3 v4 v5 v6 v7 v8 v9 v10 v11 p1 p3 h) gX9_refusalOf_X9_refusal (by rfl) rfl rfl (by decide +kernel) ⟨⟨(Nat.le_of_ble_eq_true rfl), (Nat.le_of_ble_eq_true rfl)⟩, (Nat.le_of_ble_eq_true rfl), (Nat.le_of_ble_eq_true rfl)⟩ (Nat.le_of_ble_eq_true rfl) rfl rfl (sb_of [0, 1, 2, 3, 4, 5, 6] rfl rfl) rfl dX9_refusalOf_30 (fun v X1 hp => ?_)
        obtain ⟨r19, w20, w21, w22, w23, rfl, rfl, h⟩ := hp
        refine xw_X (sb_of [0, 1, 2, 3, 4, 5, 6] rfl rfl) (show ww x (W_X9_refusalOf (xg x) a0 a1 a2 a3 a4 a5 a6 a7 a8 a9 a10 a11 a12 a13 w18 v1 v2 v3 w20 v5 v6 v7 v8 w21 w22 w23) [(0, .ref a0), (1, .long p1), (3, .int p3)] 0 0 33 [.int r19] from ?_)
        refine xw_goto hf (pc := 33) dX9_refusalOf_33 (tgt := 37) rfl ?_
        exact xw_iret hf (pc := 37) dX9_refusalOf_37 hr (Nat.le_of_ble_eq_true rfl) (Nat.le_of_ble_eq_true rfl) ⟨_, _, _, _, _, _, rfl, rfl, h⟩
abbrev W_X9_affordableWords (g : Gx) (a0 a1 a2 a3 a4 a5 a6 a7 a8 a9 a10 a11 a12 a13 : Nat) (v0 : Int32) (v1 : Int32) (v2 : Int32) (v3 : Int32) (v4 : Int32) (v5 : Int32) (v6 : Nat → Int64) (v7 : Nat → Int32) (v8 : Nat → Int32) (v9 : Nat → Int32) (v10 : Nat → Int32) (v11 : Nat → Int32) : va_W := [(a0, .inr (9, [.int v0, .ref a1, .int v1, .ref a2, .ref a3, .ref a7, .ref a8, .ref a9, .ref a10, .ref a11, .int v2, .int v3, .ref a4, .int v4, .ref a5, .ref a6, .ref a12, .ref a13, .int v5])), (a1, .inl (gJ g, 60, .inr (.inl v6))), (a2, .inl (gI g, 27, .inl v7)), (a3, .inl (gI g, 27, .inl v8)), (a4, .inl (gI g, 12, .inl v9)), (a5, .inl (gI g, 27, .inl v10)), (a6, .inl (gI g, 27, .inl v11))]
abbrev rm_X9_affordableWords : Room := { frames := 4, cells := 0, slots := 0, locals := 90 }
theorem mw_X9_affordableWords_0 : (Cond.fieldLink RX9 76 "AnagramButcherModel" "wordCount" "I" : Cond) ∈ wsX9_affordableWords := (List.mem_cons_of_mem _ (List.mem_append_left _ (List.mem_append_left _ (List.mem_of_getElem? (l := wsX9_affordableWords_r1) (i := 0) rfl))))
theorem mw_X9_affordableWords_1 : (Cond.fieldLink RX9 7 "AnagramButcherModel" "words" "[J" : Cond) ∈ wsX9_affordableWords := (List.mem_cons_of_mem _ (List.mem_append_left _ (List.mem_append_left _ (List.mem_of_getElem? (l := wsX9_affordableWords_r1) (i := 1) rfl))))
theorem mi_X9_affordableWords_X9 : ∀ w ∈ wsX90, w ∈ wsX9_affordableWords := fun _ h => (List.mem_cons_of_mem _ (List.mem_append_right _ h))
set_option maxHeartbeats 4000000 in
set_option maxRecDepth 100000 in
theorem w_X9_affordableWords_L18 {x : Cx} (hf : fx x (rm_X9_affordableWords) RX9 cX9_affordableWords wsX9_affordableWords) (hn : xn x = 4) {k0 n0 : Nat} (hk : k0 ≤ (rm_X9_affordableWords).cells ∧ n0 ≤ (rm_X9_affordableWords).slots) (a0 a1 a2 a3 a4 a5 a6 a7 a8 a9 a10 a11 a12 a13 : Nat) (z1 : Int32) (v0 : Int32) (v1 : Int32) (v2 : Int32) (v3 : Int32) (v5 : Int32) (v6 : Nat → Int64) (v7 : Nat → Int32) (v8 : Nat → Int32) {K54 : Int32 → Int32 → (Nat → Int32) → (Nat → Int32) → (Nat → Int32) → Prop}
    (n : Nat) (z2 : Int32) (z3 : Int32) (v4 : Int32) (v9 : Nat → Int32) (v10 : Nat → Int32) (v11 : Nat → Int32) (h : P_X9_affordableWords_L18 z1 v0 v1 v2 v3 v5 v6 v7 v8 K54 n z2 z3 v4 v9 v10 v11)
    (hK54 : ∀ (y2 : Int32), ∀ (uv4 : Int32), ∀ (uv9 : Nat → Int32), ∀ (uv10 : Nat → Int32), ∀ (uv11 : Nat → Int32), K54 y2 uv4 uv9 uv10 uv11 → ww x (W_X9_affordableWords (xg x) a0 a1 a2 a3 a4 a5 a6 a7 a8 a9 a10 a11 a12 a13 v0 v1 v2 v3 uv4 v5 v6 v7 v8 uv9 uv10 uv11) [(2, .int y2)] k0 n0 54 []) :
    ww x (W_X9_affordableWords (xg x) a0 a1 a2 a3 a4 a5 a6 a7 a8 a9 a10 a11 a12 a13 v0 v1 v2 v3 v4 v5 v6 v7 v8 v9 v10 v11) [(0, .ref a0), (1, .int z1), (2, .int z2), (3, .int z3)] k0 n0 18 [] := by
  induction n generalizing z2 z3 v4 v9 v10 v11 with
  | zero => exact h.elim
  | succ n ih =>
    unfold P_X9_affordableWords_L18 at h
    refine xw_iload_n hf (pc := 18) dX9_affordableWords_18 rfl 3 rfl ?_
    refine xw_aload_n hf (pc := 19) dX9_affordableWords_19 rfl 0 rfl ?_
    refine xw_get hf (pc := 20) dX9_affordableWords_20 (T := TX9) mi_X9_affordableWords_X9 rfl 0 rfl 2 (by decide) rfl mw_X9_affordableWords_0 rfl ?_
    refine xw_icmp_ge hf (pc := 23) dX9_affordableWords_23 (tgt := 54) rfl ⟨fun c => ?_, fun c => ?_⟩
    · have h := h.1 c
      refine xw_L [2] rfl ?_
      exact hK54 _ _ _ _ _ h
    · have h := h.2 c
      refine xw_iload_n hf (pc := 26) dX9_affordableWords_26 rfl 2 rfl ?_
      refine xw_aload_n hf (pc := 27) dX9_affordableWords_27 rfl 0 rfl ?_
      refine xw_aload_n hf (pc := 28) dX9_affordableWords_28 rfl 0 rfl ?_
      refine xw_get hf (pc := 29) dX9_affordableWords_29 (T := TX9) mi_X9_affordableWords_X9 rfl 0 rfl 1 (by decide) rfl mw_X9_affordableWords_1 rfl ?_
      refine xw_iload_n hf (pc := 32) dX9_affordableWords_32 rfl 3 rfl ?_
      refine xw_lald hf (pc := 33) dX9_affordableWords_33 1 rfl h.1 ?_
      have h := h.2
      refine xw_iload_n hf (pc := 34) dX9_affordableWords_34 rfl 1 rfl ?_
      refine xw_callV hf (pc := 35) (nA := 2) (Xr := []) (rest := [.int z2]) (T := TX9) (c_X9_refusal (xl x) (xg x) a0 a1 a2 a3 a4 a5 a6 a7 a8 a9 a10 a11 a12 a13 v0 v1 v2 v3 v4 v5 v6 v7 v8 v9 v10 v11 (v6 z3.toNatClampNeg) z1 h) gX9_affordableWords_X9_refusal (by rfl) rfl rfl (by decide +kernel) ⟨⟨(Nat.le_of_ble_eq_true rfl), (Nat.le_of_ble_eq_true rfl)⟩, hk.1, hk.2⟩ (Nat.le_of_ble_eq_true rfl) rfl rfl (sb_of [0, 1, 2, 3, 4, 5, 6] rfl rfl) rfl dX9_affordableWords_35 (fun v X1 hp => ?_)
      obtain ⟨r4, w5, w6, w7, w8, rfl, rfl, h⟩ := hp
      refine xw_X (sb_of [0, 1, 2, 3, 4, 5, 6] rfl rfl) (show ww x (W_X9_affordableWords (xg x) a0 a1 a2 a3 a4 a5 a6 a7 a8 a9 a10 a11 a12 a13 v0 v1 v2 v3 w5 v5 v6 v7 v8 w6 w7 w8) [(0, .ref a0), (1, .int z1), (2, .int z2), (3, .int z3)] k0 n0 38 [.int r4, .int z2] from ?_)
      refine xw_if_ne hf (pc := 38) dX9_affordableWords_38 (c := r4 = 0) Iff.rfl (tgt := 45) rfl ⟨fun c => ?_, fun c => ?_⟩
      · have h := h.1 c
        refine xw_iconst hf (pc := 41) dX9_affordableWords_41 (v := 1) (by decide) ?_
        refine xw_goto hf (pc := 42) dX9_affordableWords_42 (tgt := 46) rfl ?_
        refine xw_iadd hf (pc := 46) dX9_affordableWords_46 ?_
        refine xw_topi (fun y9 ey9 => ?_)
        have h := h y9 ey9
        refine xw_istore_n hf (pc := 47) dX9_affordableWords_47 rfl [(2, .int y9), (0, .ref a0), (1, .int z1), (3, .int z3)] hn (by decide) rfl ?_
        refine xw_iinc hf (pc := 48) dX9_affordableWords_48 (v := z3 + 1) 3 rfl rfl [(3, .int (z3 + 1)), (2, .int y9), (0, .ref a0), (1, .int z1)] hn (by decide) rfl ?_
        refine xw_goto hf (pc := 51) dX9_affordableWords_51 (tgt := 18) rfl ?_
        refine xw_L [2, 3, 1, 0] rfl ?_
        exact ih _ _ _ _ _ _ h
      · have h := h.2 c
        refine xw_iconst hf (pc := 45) dX9_affordableWords_45 (v := 0) (by decide) ?_
        refine xw_iadd hf (pc := 46) dX9_affordableWords_46 ?_
        refine xw_topi (fun y10 ey10 => ?_)
        have h := h y10 ey10
        refine xw_istore_n hf (pc := 47) dX9_affordableWords_47 rfl [(2, .int y10), (0, .ref a0), (1, .int z1), (3, .int z3)] hn (by decide) rfl ?_
        refine xw_iinc hf (pc := 48) dX9_affordableWords_48 (v := z3 + 1) 3 rfl rfl [(3, .int (z3 + 1)), (2, .int y10), (0, .ref a0), (1, .int z1)] hn (by decide) rfl ?_
        refine xw_goto hf (pc := 51) dX9_affordableWords_51 (tgt := 18) rfl ?_
        refine xw_L [2, 3, 1, 0] rfl ?_
        exact ih _ _ _ _ _ _ h
set_option maxHeartbeats 4000000 in
set_option maxRecDepth 100000 in
theorem c_X9_affordableWords (l : Launch) (g : Gx) (a0 a1 a2 a3 a4 a5 a6 a7 a8 a9 a10 a11 a12 a13 : Nat) (v0 : Int32) (v1 : Int32) (v2 : Int32) (v3 : Int32) (v4 : Int32) (v5 : Int32) (v6 : Nat → Int64) (v7 : Nat → Int32) (v8 : Nat → Int32) (v9 : Nat → Int32) (v10 : Nat → Int32) (v11 : Nat → Int32) (p1 : Int32) {post : Int32 → Int32 → Int32 → (Nat → Int32) → (Nat → Int32) → (Nat → Int32) → Prop} (h : P_X9_affordableWords post p1 v0 v1 v2 v3 v4 v5 v6 v7 v8 v9 v10 v11) : cm l g yX9_affordableWords wsX9_affordableWords (rm_X9_affordableWords) [.ref a0, .int p1] (W_X9_affordableWords g a0 a1 a2 a3 a4 a5 a6 a7 a8 a9 a10 a11 a12 a13 v0 v1 v2 v3 v4 v5 v6 v7 v8 v9 v10 v11) (fun v X1 => ∃ (r : Int32) (uv0 : Int32) (uv4 : Int32) (uv9 : Nat → Int32) (uv10 : Nat → Int32) (uv11 : Nat → Int32), v = some (.int r) ∧ X1 = W_X9_affordableWords g a0 a1 a2 a3 a4 a5 a6 a7 a8 a9 a10 a11 a12 a13 uv0 v1 v2 v3 uv4 v5 v6 v7 v8 uv9 uv10 uv11 ∧ post r uv0 uv4 uv9 uv10 uv11) := by
  refine cm_of (cc := cX9_affordableWords) (nL := 4) (ret := (some .int)) (by decide +kernel) rfl (Nat.le_of_ble_eq_true rfl) ?_
  intro x hf hl hg hn hi hr
  subst hl
  subst hg
  show ww x (W_X9_affordableWords (xg x) a0 a1 a2 a3 a4 a5 a6 a7 a8 a9 a10 a11 a12 a13 v0 v1 v2 v3 v4 v5 v6 v7 v8 v9 v10 v11) [(0, .ref a0), (1, .int p1)] 0 0 0 []
  unfold P_X9_affordableWords at h
  refine xw_aload_n hf (pc := 0) dX9_affordableWords_0 rfl 0 rfl ?_
  refine xw_aload_n hf (pc := 1) dX9_affordableWords_1 rfl 0 rfl ?_
  refine xw_iload_n hf (pc := 2) dX9_affordableWords_2 rfl 1 rfl ?_
  refine xw_callV hf (pc := 3) (nA := 1) (Xr := [(a0, .inr (9, [.int v0, .ref a1, .int v1, .ref a2, .ref a3, .ref a7, .ref a8, .ref a9, .ref a10, .ref a11, .int v2, .int v3, .ref a4, .int v4, .ref a5, .ref a6, .ref a12, .ref a13, .int v5])), (a1, .inl (gJ (xg x), 60, .inr (.inl v6))), (a2, .inl (gI (xg x), 27, .inl v7)), (a3, .inl (gI (xg x), 27, .inl v8)), (a4, .inl (gI (xg x), 12, .inl v9)), (a5, .inl (gI (xg x), 27, .inl v10)), (a6, .inl (gI (xg x), 27, .inl v11))]) (rest := [.ref a0]) (T := TX9) (c_X9_isBudget (xl x) (xg x) a0 p1 h) gX9_affordableWords_X9_isBudget (by rfl) rfl rfl (by decide +kernel) ⟨⟨(Nat.le_of_ble_eq_true rfl), (Nat.le_of_ble_eq_true rfl)⟩, (Nat.le_of_ble_eq_true rfl), (Nat.le_of_ble_eq_true rfl)⟩ (Nat.le_of_ble_eq_true rfl) rfl rfl (sb_rf _) rfl dX9_affordableWords_3 (fun v X1 hp => ?_)
  obtain ⟨r1, rfl, rfl, h⟩ := hp
  show ww x (W_X9_affordableWords (xg x) a0 a1 a2 a3 a4 a5 a6 a7 a8 a9 a10 a11 a12 a13 v0 v1 v2 v3 v4 v5 v6 v7 v8 v9 v10 v11) [(0, .ref a0), (1, .int p1)] 0 0 6 [.int r1, .ref a0]
  refine xw_callV hf (pc := 6) (nA := 1) (Xr := [(a1, .inl (gJ (xg x), 60, .inr (.inl v6))), (a2, .inl (gI (xg x), 27, .inl v7)), (a3, .inl (gI (xg x), 27, .inl v8)), (a4, .inl (gI (xg x), 12, .inl v9)), (a5, .inl (gI (xg x), 27, .inl v10)), (a6, .inl (gI (xg x), 27, .inl v11))]) (rest := []) (T := TX9) (c_X9_isGood (xl x) (xg x) a0 a1 a2 a3 a7 a8 a9 a10 a11 a4 a5 a6 a12 a13 v0 v1 v2 v3 v4 v5 r1 h) gX9_affordableWords_X9_isGood (by rfl) rfl rfl (by decide +kernel) ⟨⟨(Nat.le_of_ble_eq_true rfl), (Nat.le_of_ble_eq_true rfl)⟩, (Nat.le_of_ble_eq_true rfl), (Nat.le_of_ble_eq_true rfl)⟩ (Nat.le_of_ble_eq_true rfl) rfl rfl (sb_of [0, 1, 2, 3, 4, 5, 6] rfl rfl) rfl dX9_affordableWords_6 (fun v X1 hp => ?_)
  obtain ⟨r2, w3, rfl, rfl, h⟩ := hp
  refine xw_X (sb_of [0, 1, 2, 3, 4, 5, 6] rfl rfl) (show ww x (W_X9_affordableWords (xg x) a0 a1 a2 a3 a4 a5 a6 a7 a8 a9 a10 a11 a12 a13 w3 v1 v2 v3 v4 v5 v6 v7 v8 v9 v10 v11) [(0, .ref a0), (1, .int p1)] 0 0 9 [.int r2] from ?_)
  refine xw_if_ne hf (pc := 9) dX9_affordableWords_9 (c := r2 = 0) Iff.rfl (tgt := 14) rfl ⟨fun c => ?_, fun c => ?_⟩
  · have h := h.1 c
    refine xw_iconst hf (pc := 12) dX9_affordableWords_12 (v := 0) (by decide) ?_
    exact xw_iret hf (pc := 13) dX9_affordableWords_13 hr (Nat.le_of_ble_eq_true rfl) (Nat.le_of_ble_eq_true rfl) ⟨_, _, _, _, _, _, rfl, rfl, h⟩
  · have h := h.2 c
    refine xw_iconst hf (pc := 14) dX9_affordableWords_14 (v := 0) (by decide) ?_
    refine xw_istore_n hf (pc := 15) dX9_affordableWords_15 rfl [(2, .int 0), (0, .ref a0), (1, .int p1)] hn (by decide) rfl ?_
    refine xw_iconst hf (pc := 16) dX9_affordableWords_16 (v := 0) (by decide) ?_
    refine xw_istore_n hf (pc := 17) dX9_affordableWords_17 rfl [(3, .int 0), (2, .int 0), (0, .ref a0), (1, .int p1)] hn (by decide) rfl ?_
    refine xw_L [2, 3, 1, 0] rfl ?_
    refine w_X9_affordableWords_L18 hf hn ⟨(Nat.le_of_ble_eq_true rfl), (Nat.le_of_ble_eq_true rfl)⟩ a0 a1 a2 a3 a4 a5 a6 a7 a8 a9 a10 a11 a12 a13 p1 w3 v1 v2 v3 v5 v6 v7 v8 FU _ _ _ _ _ _ h (fun x11 w12 w13 w14 w15 h => ?_)
    refine xw_iload_n hf (pc := 54) dX9_affordableWords_54 rfl 0 rfl ?_
    exact xw_iret hf (pc := 55) dX9_affordableWords_55 hr (Nat.le_of_ble_eq_true rfl) (Nat.le_of_ble_eq_true rfl) ⟨_, _, _, _, _, _, rfl, rfl, h⟩
abbrev W_X9_costNow (g : Gx) (a0 a1 a2 a3 a4 a5 a6 a7 a8 a9 a10 a11 a12 a13 : Nat) (v0 : Int32) (v1 : Int32) (v2 : Int32) (v3 : Int32) (v4 : Int32) (v5 : Int32) (v6 : Nat → Int32) (v7 : Nat → Int32) (v8 : Nat → Int32) (v9 : Nat → Int32) (v10 : Nat → Int32) : va_W := [(a0, .inr (9, [.int v0, .ref a6, .int v1, .ref a1, .ref a2, .ref a7, .ref a8, .ref a9, .ref a10, .ref a11, .int v2, .int v3, .ref a3, .int v4, .ref a4, .ref a5, .ref a12, .ref a13, .int v5])), (a1, .inl (gI g, 27, .inl v6)), (a2, .inl (gI g, 27, .inl v7)), (a3, .inl (gI g, 12, .inl v8)), (a4, .inl (gI g, 27, .inl v9)), (a5, .inl (gI g, 27, .inl v10))]
abbrev rm_X9_costNow : Room := { frames := 3, cells := 0, slots := 0, locals := 67 }
set_option maxHeartbeats 4000000 in
set_option maxRecDepth 100000 in
theorem c_X9_costNow (l : Launch) (g : Gx) (a0 a1 a2 a3 a4 a5 a6 a7 a8 a9 a10 a11 a12 a13 : Nat) (v0 : Int32) (v1 : Int32) (v2 : Int32) (v3 : Int32) (v4 : Int32) (v5 : Int32) (v6 : Nat → Int32) (v7 : Nat → Int32) (v8 : Nat → Int32) (v9 : Nat → Int32) (v10 : Nat → Int32) (p1 : Int64) {post : Int32 → Int32 → (Nat → Int32) → (Nat → Int32) → (Nat → Int32) → Prop} (h : P_X9_costNow post p1 v0 v1 v2 v3 v4 v5 v6 v7 v8 v9 v10) : cm l g yX9_costNow wsX9_costNow (rm_X9_costNow) [.ref a0, .long p1] (W_X9_costNow g a0 a1 a2 a3 a4 a5 a6 a7 a8 a9 a10 a11 a12 a13 v0 v1 v2 v3 v4 v5 v6 v7 v8 v9 v10) (fun v X1 => ∃ (r : Int32) (uv4 : Int32) (uv8 : Nat → Int32) (uv9 : Nat → Int32) (uv10 : Nat → Int32), v = some (.int r) ∧ X1 = W_X9_costNow g a0 a1 a2 a3 a4 a5 a6 a7 a8 a9 a10 a11 a12 a13 v0 v1 v2 v3 uv4 v5 v6 v7 uv8 uv9 uv10 ∧ post r uv4 uv8 uv9 uv10) := by
  refine cm_of (cc := cX9_costNow) (nL := 3) (ret := (some .int)) (by decide +kernel) rfl (Nat.le_of_ble_eq_true rfl) ?_
  intro x hf hl hg hn hi hr
  subst hl
  subst hg
  show ww x (W_X9_costNow (xg x) a0 a1 a2 a3 a4 a5 a6 a7 a8 a9 a10 a11 a12 a13 v0 v1 v2 v3 v4 v5 v6 v7 v8 v9 v10) [(0, .ref a0), (1, .long p1)] 0 0 0 []
  unfold P_X9_costNow at h
  refine xw_aload_n hf (pc := 0) dX9_costNow_0 rfl 0 rfl ?_
  refine xw_lload_n hf (pc := 1) dX9_costNow_1 rfl 1 rfl ?_
  refine xw_callV hf (pc := 2) (nA := 1) (Xr := [(a1, .inl (gI (xg x), 27, .inl v6)), (a2, .inl (gI (xg x), 27, .inl v7)), (a5, .inl (gI (xg x), 27, .inl v10))]) (rest := []) (T := TX9) (c_X9_spell (xl x) (xg x) a0 a3 a4 a6 a1 a2 a7 a8 a9 a10 a11 a5 a12 a13 v0 v1 v2 v3 v4 v5 v8 v9 p1 h) gX9_costNow_X9_spell (by rfl) rfl rfl (by decide +kernel) ⟨⟨(Nat.le_of_ble_eq_true rfl), (Nat.le_of_ble_eq_true rfl)⟩, (Nat.le_of_ble_eq_true rfl), (Nat.le_of_ble_eq_true rfl)⟩ (Nat.le_of_ble_eq_true rfl) rfl rfl (sb_of [0, 3, 4, 1, 2, 5] rfl rfl) rfl dX9_costNow_2 (fun v X1 hp => ?_)
  obtain ⟨w2, w3, w4, rfl, rfl, h⟩ := hp
  refine xw_X (sb_of [0, 3, 4, 1, 2, 5] rfl rfl) (show ww x (W_X9_costNow (xg x) a0 a1 a2 a3 a4 a5 a6 a7 a8 a9 a10 a11 a12 a13 v0 v1 v2 v3 w2 v5 v6 v7 w3 w4 v10) [(0, .ref a0), (1, .long p1)] 0 0 5 [] from ?_)
  refine xw_aload_n hf (pc := 5) dX9_costNow_5 rfl 0 rfl ?_
  refine xw_callV hf (pc := 6) (nA := 0) (Xr := [(a4, .inl (gI (xg x), 27, .inl w4))]) (rest := []) (T := TX9) (c_X9_cost (xl x) (xg x) a0 a1 a2 a3 a5 a6 a7 a8 a9 a10 a11 a4 a12 a13 v0 v1 v2 v3 w2 v5 v6 v7 w3 v10 h) gX9_costNow_X9_cost (by rfl) rfl rfl (by decide +kernel) ⟨⟨(Nat.le_of_ble_eq_true rfl), (Nat.le_of_ble_eq_true rfl)⟩, (Nat.le_of_ble_eq_true rfl), (Nat.le_of_ble_eq_true rfl)⟩ (Nat.le_of_ble_eq_true rfl) rfl rfl (sb_of [0, 1, 2, 3, 5, 4] rfl rfl) rfl dX9_costNow_6 (fun v X1 hp => ?_)
  obtain ⟨r5, w6, rfl, rfl, h⟩ := hp
  refine xw_X (sb_of [0, 1, 2, 3, 5, 4] rfl rfl) (show ww x (W_X9_costNow (xg x) a0 a1 a2 a3 a4 a5 a6 a7 a8 a9 a10 a11 a12 a13 v0 v1 v2 v3 w2 v5 v6 v7 w3 w4 w6) [(0, .ref a0), (1, .long p1)] 0 0 9 [.int r5] from ?_)
  exact xw_iret hf (pc := 9) dX9_costNow_9 hr (Nat.le_of_ble_eq_true rfl) (Nat.le_of_ble_eq_true rfl) ⟨_, _, _, _, _, rfl, rfl, h⟩
abbrev W_X9_isBetter (g : Gx) (a0 a1 a2 a3 a4 a5 a6 a7 a8 a9 a10 a11 a12 a13 : Nat) (v0 : Int32) (v1 : Int32) (v2 : Int32) (v3 : Int32) (v4 : Int32) (v5 : Int32) (v6 : Nat → Int32) (v7 : Nat → Int32) (v8 : Nat → Int32) (v9 : Nat → Int32) (v10 : Nat → Int32) : va_W := [(a0, .inr (9, [.int v0, .ref a6, .int v1, .ref a1, .ref a2, .ref a7, .ref a8, .ref a9, .ref a10, .ref a11, .int v2, .int v3, .ref a3, .int v4, .ref a4, .ref a5, .ref a12, .ref a13, .int v5])), (a1, .inl (gI g, 27, .inl v6)), (a2, .inl (gI g, 27, .inl v7)), (a3, .inl (gI g, 12, .inl v8)), (a4, .inl (gI g, 27, .inl v9)), (a5, .inl (gI g, 27, .inl v10))]
abbrev rm_X9_isBetter : Room := { frames := 4, cells := 0, slots := 0, locals := 89 }
set_option maxHeartbeats 4000000 in
set_option maxRecDepth 100000 in
theorem c_X9_isBetter (l : Launch) (g : Gx) (a0 a1 a2 a3 a4 a5 a6 a7 a8 a9 a10 a11 a12 a13 : Nat) (v0 : Int32) (v1 : Int32) (v2 : Int32) (v3 : Int32) (v4 : Int32) (v5 : Int32) (v6 : Nat → Int32) (v7 : Nat → Int32) (v8 : Nat → Int32) (v9 : Nat → Int32) (v10 : Nat → Int32) (p1 : Int64) (p3 : Int64) {post : Int32 → Int32 → (Nat → Int32) → (Nat → Int32) → (Nat → Int32) → Prop} (h : P_X9_isBetter post p1 p3 v0 v1 v2 v3 v4 v5 v6 v7 v8 v9 v10) : cm l g yX9_isBetter wsX9_isBetter (rm_X9_isBetter) [.ref a0, .long p1, .long p3] (W_X9_isBetter g a0 a1 a2 a3 a4 a5 a6 a7 a8 a9 a10 a11 a12 a13 v0 v1 v2 v3 v4 v5 v6 v7 v8 v9 v10) (fun v X1 => ∃ (r : Int32) (uv4 : Int32) (uv8 : Nat → Int32) (uv9 : Nat → Int32) (uv10 : Nat → Int32), v = some (.int r) ∧ X1 = W_X9_isBetter g a0 a1 a2 a3 a4 a5 a6 a7 a8 a9 a10 a11 a12 a13 v0 v1 v2 v3 uv4 v5 v6 v7 uv8 uv9 uv10 ∧ post r uv4 uv8 uv9 uv10) := by
  refine cm_of (cc := cX9_isBetter) (nL := 6) (ret := (some .boolean)) (by decide +kernel) rfl (Nat.le_of_ble_eq_true rfl) ?_
  intro x hf hl hg hn hi hr
  subst hl
  subst hg
  show ww x (W_X9_isBetter (xg x) a0 a1 a2 a3 a4 a5 a6 a7 a8 a9 a10 a11 a12 a13 v0 v1 v2 v3 v4 v5 v6 v7 v8 v9 v10) [(0, .ref a0), (1, .long p1), (3, .long p3)] 0 0 0 []
  unfold P_X9_isBetter at h
  refine xw_lload_n hf (pc := 0) dX9_isBetter_0 rfl 1 rfl ?_
  refine xw_callS hf (pc := 1) (nA := 1) (Xr := W_X9_isBetter (xg x) a0 a1 a2 a3 a4 a5 a6 a7 a8 a9 a10 a11 a12 a13 v0 v1 v2 v3 v4 v5 v6 v7 v8 v9 v10) (rest := []) (c_X9_lengthOf (xl x) (xg x) p1 h) gX9_isBetter_X9_lengthOf (by rfl) rfl (by decide +kernel) ⟨⟨(Nat.le_of_ble_eq_true rfl), (Nat.le_of_ble_eq_true rfl)⟩, (Nat.le_of_ble_eq_true rfl), (Nat.le_of_ble_eq_true rfl)⟩ (Nat.le_of_ble_eq_true rfl) (sb_rf _) rfl dX9_isBetter_1 (fun v X1 hp => ?_)
  obtain ⟨r1, rfl, rfl, h⟩ := hp
  show ww x (W_X9_isBetter (xg x) a0 a1 a2 a3 a4 a5 a6 a7 a8 a9 a10 a11 a12 a13 v0 v1 v2 v3 v4 v5 v6 v7 v8 v9 v10) [(0, .ref a0), (1, .long p1), (3, .long p3)] 0 0 4 [.int r1]
  refine xw_lload_n hf (pc := 4) dX9_isBetter_4 rfl 2 rfl ?_
  refine xw_callS hf (pc := 5) (nA := 1) (Xr := W_X9_isBetter (xg x) a0 a1 a2 a3 a4 a5 a6 a7 a8 a9 a10 a11 a12 a13 v0 v1 v2 v3 v4 v5 v6 v7 v8 v9 v10) (rest := [.int r1]) (c_X9_lengthOf (xl x) (xg x) p3 h) gX9_isBetter_X9_lengthOf (by rfl) rfl (by decide +kernel) ⟨⟨(Nat.le_of_ble_eq_true rfl), (Nat.le_of_ble_eq_true rfl)⟩, (Nat.le_of_ble_eq_true rfl), (Nat.le_of_ble_eq_true rfl)⟩ (Nat.le_of_ble_eq_true rfl) (sb_rf _) rfl dX9_isBetter_5 (fun v X1 hp => ?_)
  obtain ⟨r2, rfl, rfl, h⟩ := hp
  show ww x (W_X9_isBetter (xg x) a0 a1 a2 a3 a4 a5 a6 a7 a8 a9 a10 a11 a12 a13 v0 v1 v2 v3 v4 v5 v6 v7 v8 v9 v10) [(0, .ref a0), (1, .long p1), (3, .long p3)] 0 0 8 [.int r2, .int r1]
  refine xw_icmp_eq hf (pc := 8) dX9_isBetter_8 (tgt := 28) rfl ⟨fun c => ?_, fun c => ?_⟩
  · have h := h.1 c
    refine xw_aload_n hf (pc := 28) dX9_isBetter_28 rfl 0 rfl ?_
    refine xw_lload_n hf (pc := 29) dX9_isBetter_29 rfl 2 rfl ?_
    refine xw_callV hf (pc := 30) (nA := 1) (Xr := []) (rest := []) (T := TX9) (c_X9_costNow (xl x) (xg x) a0 a1 a2 a3 a4 a5 a6 a7 a8 a9 a10 a11 a12 a13 v0 v1 v2 v3 v4 v5 v6 v7 v8 v9 v10 p3 h) gX9_isBetter_X9_costNow (by rfl) rfl rfl (by decide +kernel) ⟨⟨(Nat.le_of_ble_eq_true rfl), (Nat.le_of_ble_eq_true rfl)⟩, (Nat.le_of_ble_eq_true rfl), (Nat.le_of_ble_eq_true rfl)⟩ (Nat.le_of_ble_eq_true rfl) rfl rfl (sb_of [0, 1, 2, 3, 4, 5] rfl rfl) rfl dX9_isBetter_30 (fun v X1 hp => ?_)
    obtain ⟨r3, w4, w5, w6, w7, rfl, rfl, h⟩ := hp
    refine xw_X (sb_of [0, 1, 2, 3, 4, 5] rfl rfl) (show ww x (W_X9_isBetter (xg x) a0 a1 a2 a3 a4 a5 a6 a7 a8 a9 a10 a11 a12 a13 v0 v1 v2 v3 w4 v5 v6 v7 w5 w6 w7) [(0, .ref a0), (1, .long p1), (3, .long p3)] 0 0 33 [.int r3] from ?_)
    refine xw_aload_n hf (pc := 33) dX9_isBetter_33 rfl 0 rfl ?_
    refine xw_lload_n hf (pc := 34) dX9_isBetter_34 rfl 1 rfl ?_
    refine xw_callV hf (pc := 35) (nA := 1) (Xr := []) (rest := [.int r3]) (T := TX9) (c_X9_costNow (xl x) (xg x) a0 a1 a2 a3 a4 a5 a6 a7 a8 a9 a10 a11 a12 a13 v0 v1 v2 v3 w4 v5 v6 v7 w5 w6 w7 p1 h) gX9_isBetter_X9_costNow (by rfl) rfl rfl (by decide +kernel) ⟨⟨(Nat.le_of_ble_eq_true rfl), (Nat.le_of_ble_eq_true rfl)⟩, (Nat.le_of_ble_eq_true rfl), (Nat.le_of_ble_eq_true rfl)⟩ (Nat.le_of_ble_eq_true rfl) rfl rfl (sb_of [0, 1, 2, 3, 4, 5] rfl rfl) rfl dX9_isBetter_35 (fun v X1 hp => ?_)
    obtain ⟨r8, w9, w10, w11, w12, rfl, rfl, h⟩ := hp
    refine xw_X (sb_of [0, 1, 2, 3, 4, 5] rfl rfl) (show ww x (W_X9_isBetter (xg x) a0 a1 a2 a3 a4 a5 a6 a7 a8 a9 a10 a11 a12 a13 v0 v1 v2 v3 w9 v5 v6 v7 w10 w11 w12) [(0, .ref a0), (1, .long p1), (3, .long p3)] 0 0 38 [.int r8, .int r3] from ?_)
    refine xw_isub hf (pc := 38) dX9_isBetter_38 ?_
    refine xw_topi (fun y13 ey13 => ?_)
    have h := h y13 ey13
    refine xw_istore hf (pc := 39) dX9_isBetter_39 [(5, .int y13), (0, .ref a0), (1, .long p1), (3, .long p3)] hn (by decide) rfl ?_
    refine xw_iload hf (pc := 41) dX9_isBetter_41 0 rfl ?_
    refine xw_if_gt hf (pc := 43) dX9_isBetter_43 (c := 0 < y13) Iff.rfl (tgt := 63) rfl ⟨fun c => ?_, fun c => ?_⟩
    · have h := h.1 c
      refine xw_iconst hf (pc := 63) dX9_isBetter_63 (v := 1) (by decide) ?_
      refine xw_goto hf (pc := 64) dX9_isBetter_64 (tgt := 68) rfl ?_
      exact xw_zret hf (pc := 68) dX9_isBetter_68 hr (Nat.le_of_ble_eq_true rfl) (Nat.le_of_ble_eq_true rfl) rfl ⟨_, _, _, _, _, rfl, rfl, h⟩
    · have h := h.2 c
      refine xw_iload hf (pc := 46) dX9_isBetter_46 0 rfl ?_
      refine xw_if_ne hf (pc := 48) dX9_isBetter_48 (c := y13 = 0) Iff.rfl (tgt := 67) rfl ⟨fun c => ?_, fun c => ?_⟩
      · have h := h.1 c
        refine xw_lload_n hf (pc := 51) dX9_isBetter_51 rfl 2 rfl ?_
        refine xw_callS hf (pc := 52) (nA := 1) (Xr := W_X9_isBetter (xg x) a0 a1 a2 a3 a4 a5 a6 a7 a8 a9 a10 a11 a12 a13 v0 v1 v2 v3 w9 v5 v6 v7 w10 w11 w12) (rest := []) (c_X9_key (xl x) (xg x) p1 h) gX9_isBetter_X9_key (by rfl) rfl (by decide +kernel) ⟨⟨(Nat.le_of_ble_eq_true rfl), (Nat.le_of_ble_eq_true rfl)⟩, (Nat.le_of_ble_eq_true rfl), (Nat.le_of_ble_eq_true rfl)⟩ (Nat.le_of_ble_eq_true rfl) (sb_rf _) rfl dX9_isBetter_52 (fun v X1 hp => ?_)
        obtain ⟨r14, rfl, rfl, h⟩ := hp
        show ww x (W_X9_isBetter (xg x) a0 a1 a2 a3 a4 a5 a6 a7 a8 a9 a10 a11 a12 a13 v0 v1 v2 v3 w9 v5 v6 v7 w10 w11 w12) [(5, .int y13), (0, .ref a0), (1, .long p1), (3, .long p3)] 0 0 55 [.long r14]
        refine xw_lload_n hf (pc := 55) dX9_isBetter_55 rfl 3 rfl ?_
        refine xw_callS hf (pc := 56) (nA := 1) (Xr := W_X9_isBetter (xg x) a0 a1 a2 a3 a4 a5 a6 a7 a8 a9 a10 a11 a12 a13 v0 v1 v2 v3 w9 v5 v6 v7 w10 w11 w12) (rest := [.long r14]) (c_X9_key (xl x) (xg x) p3 h) gX9_isBetter_X9_key (by rfl) rfl (by decide +kernel) ⟨⟨(Nat.le_of_ble_eq_true rfl), (Nat.le_of_ble_eq_true rfl)⟩, (Nat.le_of_ble_eq_true rfl), (Nat.le_of_ble_eq_true rfl)⟩ (Nat.le_of_ble_eq_true rfl) (sb_rf _) rfl dX9_isBetter_56 (fun v X1 hp => ?_)
        obtain ⟨r15, rfl, rfl, h⟩ := hp
        show ww x (W_X9_isBetter (xg x) a0 a1 a2 a3 a4 a5 a6 a7 a8 a9 a10 a11 a12 a13 v0 v1 v2 v3 w9 v5 v6 v7 w10 w11 w12) [(5, .int y13), (0, .ref a0), (1, .long p1), (3, .long p3)] 0 0 59 [.long r15, .long r14]
        refine xw_lcmp hf (pc := 59) dX9_isBetter_59 ?_
        refine xw_if_ge hf (pc := 60) dX9_isBetter_60 (c := r15 ≤ r14) (lc_ge _ _) (tgt := 67) rfl ⟨fun c => ?_, fun c => ?_⟩
        · have h := h.1 c
          refine xw_iconst hf (pc := 67) dX9_isBetter_67 (v := 0) (by decide) ?_
          exact xw_zret hf (pc := 68) dX9_isBetter_68 hr (Nat.le_of_ble_eq_true rfl) (Nat.le_of_ble_eq_true rfl) rfl ⟨_, _, _, _, _, rfl, rfl, h⟩
        · have h := h.2 c
          refine xw_iconst hf (pc := 63) dX9_isBetter_63 (v := 1) (by decide) ?_
          refine xw_goto hf (pc := 64) dX9_isBetter_64 (tgt := 68) rfl ?_
          exact xw_zret hf (pc := 68) dX9_isBetter_68 hr (Nat.le_of_ble_eq_true rfl) (Nat.le_of_ble_eq_true rfl) rfl ⟨_, _, _, _, _, rfl, rfl, h⟩
      · have h := h.2 c
        refine xw_iconst hf (pc := 67) dX9_isBetter_67 (v := 0) (by decide) ?_
        exact xw_zret hf (pc := 68) dX9_isBetter_68 hr (Nat.le_of_ble_eq_true rfl) (Nat.le_of_ble_eq_true rfl) rfl ⟨_, _, _, _, _, rfl, rfl, h⟩
  · have h := h.2 c
    refine xw_lload_n hf (pc := 11) dX9_isBetter_11 rfl 1 rfl ?_
    refine xw_callS hf (pc := 12) (nA := 1) (Xr := W_X9_isBetter (xg x) a0 a1 a2 a3 a4 a5 a6 a7 a8 a9 a10 a11 a12 a13 v0 v1 v2 v3 v4 v5 v6 v7 v8 v9 v10) (rest := []) (c_X9_lengthOf (xl x) (xg x) p1 h) gX9_isBetter_X9_lengthOf (by rfl) rfl (by decide +kernel) ⟨⟨(Nat.le_of_ble_eq_true rfl), (Nat.le_of_ble_eq_true rfl)⟩, (Nat.le_of_ble_eq_true rfl), (Nat.le_of_ble_eq_true rfl)⟩ (Nat.le_of_ble_eq_true rfl) (sb_rf _) rfl dX9_isBetter_12 (fun v X1 hp => ?_)
    obtain ⟨r16, rfl, rfl, h⟩ := hp
    show ww x (W_X9_isBetter (xg x) a0 a1 a2 a3 a4 a5 a6 a7 a8 a9 a10 a11 a12 a13 v0 v1 v2 v3 v4 v5 v6 v7 v8 v9 v10) [(0, .ref a0), (1, .long p1), (3, .long p3)] 0 0 15 [.int r16]
    refine xw_lload_n hf (pc := 15) dX9_isBetter_15 rfl 2 rfl ?_
    refine xw_callS hf (pc := 16) (nA := 1) (Xr := W_X9_isBetter (xg x) a0 a1 a2 a3 a4 a5 a6 a7 a8 a9 a10 a11 a12 a13 v0 v1 v2 v3 v4 v5 v6 v7 v8 v9 v10) (rest := [.int r16]) (c_X9_lengthOf (xl x) (xg x) p3 h) gX9_isBetter_X9_lengthOf (by rfl) rfl (by decide +kernel) ⟨⟨(Nat.le_of_ble_eq_true rfl), (Nat.le_of_ble_eq_true rfl)⟩, (Nat.le_of_ble_eq_true rfl), (Nat.le_of_ble_eq_true rfl)⟩ (Nat.le_of_ble_eq_true rfl) (sb_rf _) rfl dX9_isBetter_16 (fun v X1 hp => ?_)
    obtain ⟨r17, rfl, rfl, h⟩ := hp
    show ww x (W_X9_isBetter (xg x) a0 a1 a2 a3 a4 a5 a6 a7 a8 a9 a10 a11 a12 a13 v0 v1 v2 v3 v4 v5 v6 v7 v8 v9 v10) [(0, .ref a0), (1, .long p1), (3, .long p3)] 0 0 19 [.int r17, .int r16]
    refine xw_icmp_le hf (pc := 19) dX9_isBetter_19 (tgt := 26) rfl ⟨fun c => ?_, fun c => ?_⟩
    · have h := h.1 c
      refine xw_iconst hf (pc := 26) dX9_isBetter_26 (v := 0) (by decide) ?_
      exact xw_zret hf (pc := 27) dX9_isBetter_27 hr (Nat.le_of_ble_eq_true rfl) (Nat.le_of_ble_eq_true rfl) rfl ⟨_, _, _, _, _, rfl, rfl, h⟩
    · have h := h.2 c
      refine xw_iconst hf (pc := 22) dX9_isBetter_22 (v := 1) (by decide) ?_
      refine xw_goto hf (pc := 23) dX9_isBetter_23 (tgt := 27) rfl ?_
      exact xw_zret hf (pc := 27) dX9_isBetter_27 hr (Nat.le_of_ble_eq_true rfl) (Nat.le_of_ble_eq_true rfl) rfl ⟨_, _, _, _, _, rfl, rfl, h⟩
abbrev W_X9_best (g : Gx) (a0 a1 a2 a3 a4 a5 a6 a7 a8 a9 a10 a11 a12 a13 : Nat) (v0 : Int32) (v1 : Int32) (v2 : Int32) (v3 : Int32) (v4 : Int32) (v5 : Int32) (v6 : Nat → Int64) (v7 : Nat → Int32) (v8 : Nat → Int32) (v9 : Nat → Int32) (v10 : Nat → Int32) (v11 : Nat → Int32) : va_W := [(a0, .inr (9, [.int v0, .ref a1, .int v1, .ref a2, .ref a3, .ref a7, .ref a8, .ref a9, .ref a10, .ref a11, .int v2, .int v3, .ref a4, .int v4, .ref a5, .ref a6, .ref a12, .ref a13, .int v5])), (a1, .inl (gJ g, 60, .inr (.inl v6))), (a2, .inl (gI g, 27, .inl v7)), (a3, .inl (gI g, 27, .inl v8)), (a4, .inl (gI g, 12, .inl v9)), (a5, .inl (gI g, 27, .inl v10)), (a6, .inl (gI g, 27, .inl v11))]
abbrev rm_X9_best : Room := { frames := 5, cells := 0, slots := 0, locals := 114 }
theorem mw_X9_best_0 : (Cond.fieldLink RX9 76 "AnagramButcherModel" "wordCount" "I" : Cond) ∈ wsX9_best := (List.mem_cons_of_mem _ (List.mem_append_left _ (List.mem_append_left _ (List.mem_of_getElem? (l := wsX9_best_r1) (i := 0) rfl))))
theorem mw_X9_best_1 : (Cond.fieldLink RX9 7 "AnagramButcherModel" "words" "[J" : Cond) ∈ wsX9_best := (List.mem_cons_of_mem _ (List.mem_append_left _ (List.mem_append_left _ (List.mem_of_getElem? (l := wsX9_best_r1) (i := 1) rfl))))
theorem mi_X9_best_X9 : ∀ w ∈ wsX90, w ∈ wsX9_best := fun _ h => (List.mem_cons_of_mem _ (List.mem_append_right _ h))
set_option maxHeartbeats 4000000 in
set_option maxRecDepth 100000 in
theorem w_X9_best_L5 {x : Cx} (hf : fx x (rm_X9_best) RX9 cX9_best wsX9_best) (hn : xn x = 5) {k0 n0 : Nat} (hk : k0 ≤ (rm_X9_best).cells ∧ n0 ≤ (rm_X9_best).slots) (a0 a1 a2 a3 a4 a5 a6 a7 a8 a9 a10 a11 a12 a13 : Nat) (z1 : Int32) (v0 : Int32) (v1 : Int32) (v2 : Int32) (v3 : Int32) (v5 : Int32) (v6 : Nat → Int64) (v7 : Nat → Int32) (v8 : Nat → Int32) {K64 : Int64 → Int32 → (Nat → Int32) → (Nat → Int32) → (Nat → Int32) → Prop}
    (n : Nat) (z2 : Int64) (z4 : Int32) (v4 : Int32) (v9 : Nat → Int32) (v10 : Nat → Int32) (v11 : Nat → Int32) (h : P_X9_best_L5 z1 v0 v1 v2 v3 v5 v6 v7 v8 K64 n z2 z4 v4 v9 v10 v11)
    (hK64 : ∀ (y2 : Int64), ∀ (uv4 : Int32), ∀ (uv9 : Nat → Int32), ∀ (uv10 : Nat → Int32), ∀ (uv11 : Nat → Int32), K64 y2 uv4 uv9 uv10 uv11 → ww x (W_X9_best (xg x) a0 a1 a2 a3 a4 a5 a6 a7 a8 a9 a10 a11 a12 a13 v0 v1 v2 v3 uv4 v5 v6 v7 v8 uv9 uv10 uv11) [(2, .long y2)] k0 n0 64 []) :
    ww x (W_X9_best (xg x) a0 a1 a2 a3 a4 a5 a6 a7 a8 a9 a10 a11 a12 a13 v0 v1 v2 v3 v4 v5 v6 v7 v8 v9 v10 v11) [(0, .ref a0), (1, .int z1), (2, .long z2), (4, .int z4)] k0 n0 5 [] := by
  induction n generalizing z2 z4 v4 v9 v10 v11 with
  | zero => exact h.elim
  | succ n ih =>
    unfold P_X9_best_L5 at h
    refine xw_iload hf (pc := 5) dX9_best_5 3 rfl ?_
    refine xw_aload_n hf (pc := 7) dX9_best_7 rfl 0 rfl ?_
    refine xw_get hf (pc := 8) dX9_best_8 (T := TX9) mi_X9_best_X9 rfl 0 rfl 2 (by decide) rfl mw_X9_best_0 rfl ?_
    refine xw_icmp_ge hf (pc := 11) dX9_best_11 (tgt := 64) rfl ⟨fun c => ?_, fun c => ?_⟩
    · have h := h.1 c
      refine xw_L [2] rfl ?_
      exact hK64 _ _ _ _ _ h
    · have h := h.2 c
      refine xw_aload_n hf (pc := 14) dX9_best_14 rfl 0 rfl ?_
      refine xw_aload_n hf (pc := 15) dX9_best_15 rfl 0 rfl ?_
      refine xw_get hf (pc := 16) dX9_best_16 (T := TX9) mi_X9_best_X9 rfl 0 rfl 1 (by decide) rfl mw_X9_best_1 rfl ?_
      refine xw_iload hf (pc := 19) dX9_best_19 3 rfl ?_
      refine xw_lald hf (pc := 21) dX9_best_21 1 rfl h.1 ?_
      have h := h.2
      refine xw_iload_n hf (pc := 22) dX9_best_22 rfl 1 rfl ?_
      refine xw_callV hf (pc := 23) (nA := 2) (Xr := []) (rest := []) (T := TX9) (c_X9_refusal (xl x) (xg x) a0 a1 a2 a3 a4 a5 a6 a7 a8 a9 a10 a11 a12 a13 v0 v1 v2 v3 v4 v5 v6 v7 v8 v9 v10 v11 (v6 z4.toNatClampNeg) z1 h) gX9_best_X9_refusal (by rfl) rfl rfl (by decide +kernel) ⟨⟨(Nat.le_of_ble_eq_true rfl), (Nat.le_of_ble_eq_true rfl)⟩, hk.1, hk.2⟩ (Nat.le_of_ble_eq_true rfl) rfl rfl (sb_of [0, 1, 2, 3, 4, 5, 6] rfl rfl) rfl dX9_best_23 (fun v X1 hp => ?_)
      obtain ⟨r1, w2, w3, w4, w5, rfl, rfl, h⟩ := hp
      refine xw_X (sb_of [0, 1, 2, 3, 4, 5, 6] rfl rfl) (show ww x (W_X9_best (xg x) a0 a1 a2 a3 a4 a5 a6 a7 a8 a9 a10 a11 a12 a13 v0 v1 v2 v3 w2 v5 v6 v7 v8 w3 w4 w5) [(0, .ref a0), (1, .int z1), (2, .long z2), (4, .int z4)] k0 n0 26 [.int r1] from ?_)
      refine xw_if_ne hf (pc := 26) dX9_best_26 (c := r1 = 0) Iff.rfl (tgt := 58) rfl ⟨fun c => ?_, fun c => ?_⟩
      · have h := h.1 c
        refine xw_lload_n hf (pc := 29) dX9_best_29 rfl 2 rfl ?_
        refine xw_lconst hf (pc := 30) dX9_best_30 (v := 0) (by decide) ?_
        refine xw_lcmp hf (pc := 31) dX9_best_31 ?_
        refine xw_if_eq hf (pc := 32) dX9_best_32 (c := z2 = 0) (lc_eq _ _) (tgt := 50) rfl ⟨fun c => ?_, fun c => ?_⟩
        · have h := h.1 c
          refine xw_aload_n hf (pc := 50) dX9_best_50 rfl 0 rfl ?_
          refine xw_get hf (pc := 51) dX9_best_51 (T := TX9) mi_X9_best_X9 rfl 0 rfl 1 (by decide) rfl mw_X9_best_1 rfl ?_
          refine xw_iload hf (pc := 54) dX9_best_54 3 rfl ?_
          refine xw_lald hf (pc := 56) dX9_best_56 1 rfl h.1 ?_
          have h := h.2
          refine xw_topl (fun y6 ey6 => ?_)
          have h := h y6 ey6
          refine xw_lstore_n hf (pc := 57) dX9_best_57 rfl [(2, .long y6), (0, .ref a0), (1, .int z1), (4, .int z4)] hn (by decide) rfl ?_
          refine xw_iinc hf (pc := 58) dX9_best_58 (v := z4 + 1) 3 rfl rfl [(4, .int (z4 + 1)), (2, .long y6), (0, .ref a0), (1, .int z1)] hn (by decide) rfl ?_
          refine xw_goto hf (pc := 61) dX9_best_61 (tgt := 5) rfl ?_
          refine xw_L [2, 3, 1, 0] rfl ?_
          exact ih _ _ _ _ _ _ h
        · have h := h.2 c
          refine xw_aload_n hf (pc := 35) dX9_best_35 rfl 0 rfl ?_
          refine xw_aload_n hf (pc := 36) dX9_best_36 rfl 0 rfl ?_
          refine xw_get hf (pc := 37) dX9_best_37 (T := TX9) mi_X9_best_X9 rfl 0 rfl 1 (by decide) rfl mw_X9_best_1 rfl ?_
          refine xw_iload hf (pc := 40) dX9_best_40 3 rfl ?_
          refine xw_lald hf (pc := 42) dX9_best_42 1 rfl h.1 ?_
          have h := h.2
          refine xw_lload_n hf (pc := 43) dX9_best_43 rfl 2 rfl ?_
          refine xw_callV hf (pc := 44) (nA := 2) (Xr := [(a1, .inl (gJ (xg x), 60, .inr (.inl v6)))]) (rest := []) (T := TX9) (c_X9_isBetter (xl x) (xg x) a0 a2 a3 a4 a5 a6 a1 a7 a8 a9 a10 a11 a12 a13 v0 v1 v2 v3 w2 v5 v7 v8 w3 w4 w5 (v6 z4.toNatClampNeg) z2 h) gX9_best_X9_isBetter (by rfl) rfl rfl (by decide +kernel) ⟨⟨(Nat.le_of_ble_eq_true rfl), (Nat.le_of_ble_eq_true rfl)⟩, hk.1, hk.2⟩ (Nat.le_of_ble_eq_true rfl) rfl rfl (sb_of [0, 2, 3, 4, 5, 6, 1] rfl rfl) rfl dX9_best_44 (fun v X1 hp => ?_)
          obtain ⟨r7, w8, w9, w10, w11, rfl, rfl, h⟩ := hp
          refine xw_X (sb_of [0, 6, 1, 2, 3, 4, 5] rfl rfl) (show ww x (W_X9_best (xg x) a0 a1 a2 a3 a4 a5 a6 a7 a8 a9 a10 a11 a12 a13 v0 v1 v2 v3 w8 v5 v6 v7 v8 w9 w10 w11) [(0, .ref a0), (1, .int z1), (2, .long z2), (4, .int z4)] k0 n0 47 [.int r7] from ?_)
          refine xw_if_eq hf (pc := 47) dX9_best_47 (c := r7 = 0) Iff.rfl (tgt := 58) rfl ⟨fun c => ?_, fun c => ?_⟩
          · have h := h.1 c
            refine xw_iinc hf (pc := 58) dX9_best_58 (v := z4 + 1) 3 rfl rfl [(4, .int (z4 + 1)), (0, .ref a0), (1, .int z1), (2, .long z2)] hn (by decide) rfl ?_
            refine xw_goto hf (pc := 61) dX9_best_61 (tgt := 5) rfl ?_
            refine xw_L [1, 2, 3, 0] rfl ?_
            exact ih _ _ _ _ _ _ h
          · have h := h.2 c
            refine xw_aload_n hf (pc := 50) dX9_best_50 rfl 0 rfl ?_
            refine xw_get hf (pc := 51) dX9_best_51 (T := TX9) mi_X9_best_X9 rfl 0 rfl 1 (by decide) rfl mw_X9_best_1 rfl ?_
            refine xw_iload hf (pc := 54) dX9_best_54 3 rfl ?_
            refine xw_lald hf (pc := 56) dX9_best_56 1 rfl h.1 ?_
            have h := h.2
            refine xw_topl (fun y12 ey12 => ?_)
            have h := h y12 ey12
            refine xw_lstore_n hf (pc := 57) dX9_best_57 rfl [(2, .long y12), (0, .ref a0), (1, .int z1), (4, .int z4)] hn (by decide) rfl ?_
            refine xw_iinc hf (pc := 58) dX9_best_58 (v := z4 + 1) 3 rfl rfl [(4, .int (z4 + 1)), (2, .long y12), (0, .ref a0), (1, .int z1)] hn (by decide) rfl ?_
            refine xw_goto hf (pc := 61) dX9_best_61 (tgt := 5) rfl ?_
            refine xw_L [2, 3, 1, 0] rfl ?_
            exact ih _ _ _ _ _ _ h
      · have h := h.2 c
        refine xw_iinc hf (pc := 58) dX9_best_58 (v := z4 + 1) 3 rfl rfl [(4, .int (z4 + 1)), (0, .ref a0), (1, .int z1), (2, .long z2)] hn (by decide) rfl ?_
        refine xw_goto hf (pc := 61) dX9_best_61 (tgt := 5) rfl ?_
        refine xw_L [1, 2, 3, 0] rfl ?_
        exact ih _ _ _ _ _ _ h
set_option maxHeartbeats 4000000 in
set_option maxRecDepth 100000 in
theorem c_X9_best (l : Launch) (g : Gx) (a0 a1 a2 a3 a4 a5 a6 a7 a8 a9 a10 a11 a12 a13 : Nat) (v0 : Int32) (v1 : Int32) (v2 : Int32) (v3 : Int32) (v4 : Int32) (v5 : Int32) (v6 : Nat → Int64) (v7 : Nat → Int32) (v8 : Nat → Int32) (v9 : Nat → Int32) (v10 : Nat → Int32) (v11 : Nat → Int32) (p1 : Int32) {post : Int64 → Int32 → (Nat → Int32) → (Nat → Int32) → (Nat → Int32) → Prop} (h : P_X9_best post p1 v0 v1 v2 v3 v4 v5 v6 v7 v8 v9 v10 v11) : cm l g yX9_best wsX9_best (rm_X9_best) [.ref a0, .int p1] (W_X9_best g a0 a1 a2 a3 a4 a5 a6 a7 a8 a9 a10 a11 a12 a13 v0 v1 v2 v3 v4 v5 v6 v7 v8 v9 v10 v11) (fun v X1 => ∃ (r : Int64) (uv4 : Int32) (uv9 : Nat → Int32) (uv10 : Nat → Int32) (uv11 : Nat → Int32), v = some (.long r) ∧ X1 = W_X9_best g a0 a1 a2 a3 a4 a5 a6 a7 a8 a9 a10 a11 a12 a13 v0 v1 v2 v3 uv4 v5 v6 v7 v8 uv9 uv10 uv11 ∧ post r uv4 uv9 uv10 uv11) := by
  refine cm_of (cc := cX9_best) (nL := 5) (ret := (some .long)) (by decide +kernel) rfl (Nat.le_of_ble_eq_true rfl) ?_
  intro x hf hl hg hn hi hr
  subst hl
  subst hg
  show ww x (W_X9_best (xg x) a0 a1 a2 a3 a4 a5 a6 a7 a8 a9 a10 a11 a12 a13 v0 v1 v2 v3 v4 v5 v6 v7 v8 v9 v10 v11) [(0, .ref a0), (1, .int p1)] 0 0 0 []
  unfold P_X9_best at h
  refine xw_lconst hf (pc := 0) dX9_best_0 (v := 0) (by decide) ?_
  refine xw_lstore_n hf (pc := 1) dX9_best_1 rfl [(2, .long 0), (0, .ref a0), (1, .int p1)] hn (by decide) rfl ?_
  refine xw_iconst hf (pc := 2) dX9_best_2 (v := 0) (by decide) ?_
  refine xw_istore hf (pc := 3) dX9_best_3 [(4, .int 0), (2, .long 0), (0, .ref a0), (1, .int p1)] hn (by decide) rfl ?_
  refine xw_L [2, 3, 1, 0] rfl ?_
  refine w_X9_best_L5 hf hn ⟨(Nat.le_of_ble_eq_true rfl), (Nat.le_of_ble_eq_true rfl)⟩ a0 a1 a2 a3 a4 a5 a6 a7 a8 a9 a10 a11 a12 a13 p1 v0 v1 v2 v3 v5 v6 v7 v8 FU _ _ _ _ _ _ h (fun x13 w14 w15 w16 w17 h => ?_)
  refine xw_lload_n hf (pc := 64) dX9_best_64 rfl 0 rfl ?_
  exact xw_lret hf (pc := 65) dX9_best_65 hr (Nat.le_of_ble_eq_true rfl) (Nat.le_of_ble_eq_true rfl) ⟨_, _, _, _, _, rfl, rfl, h⟩
abbrev W_X9_bestWord (g : Gx) (a0 a1 a2 a3 a4 a5 a6 a7 a8 a9 a10 a11 a12 a13 : Nat) (v0 : Int32) (v1 : Int32) (v2 : Int32) (v3 : Int32) (v4 : Int32) (v5 : Int32) (v6 : Nat → Int64) (v7 : Nat → Int32) (v8 : Nat → Int32) (v9 : Nat → Int32) (v10 : Nat → Int32) (v11 : Nat → Int32) : va_W := [(a0, .inr (9, [.int v0, .ref a1, .int v1, .ref a2, .ref a3, .ref a7, .ref a8, .ref a9, .ref a10, .ref a11, .int v2, .int v3, .ref a4, .int v4, .ref a5, .ref a6, .ref a12, .ref a13, .int v5])), (a1, .inl (gJ g, 60, .inr (.inl v6))), (a2, .inl (gI g, 27, .inl v7)), (a3, .inl (gI g, 27, .inl v8)), (a4, .inl (gI g, 12, .inl v9)), (a5, .inl (gI g, 27, .inl v10)), (a6, .inl (gI g, 27, .inl v11))]
abbrev rm_X9_bestWord : Room := { frames := 6, cells := 0, slots := 0, locals := 138 }
set_option maxHeartbeats 4000000 in
set_option maxRecDepth 100000 in
theorem c_X9_bestWord (l : Launch) (g : Gx) (a0 a1 a2 a3 a4 a5 a6 a7 a8 a9 a10 a11 a12 a13 : Nat) (v0 : Int32) (v1 : Int32) (v2 : Int32) (v3 : Int32) (v4 : Int32) (v5 : Int32) (v6 : Nat → Int64) (v7 : Nat → Int32) (v8 : Nat → Int32) (v9 : Nat → Int32) (v10 : Nat → Int32) (v11 : Nat → Int32) (p1 : Int32) {post : Int64 → Int32 → Int32 → (Nat → Int32) → (Nat → Int32) → (Nat → Int32) → Prop} (h : P_X9_bestWord post p1 v0 v1 v2 v3 v4 v5 v6 v7 v8 v9 v10 v11) : cm l g yX9_bestWord wsX9_bestWord (rm_X9_bestWord) [.ref a0, .int p1] (W_X9_bestWord g a0 a1 a2 a3 a4 a5 a6 a7 a8 a9 a10 a11 a12 a13 v0 v1 v2 v3 v4 v5 v6 v7 v8 v9 v10 v11) (fun v X1 => ∃ (r : Int64) (uv0 : Int32) (uv4 : Int32) (uv9 : Nat → Int32) (uv10 : Nat → Int32) (uv11 : Nat → Int32), v = some (.long r) ∧ X1 = W_X9_bestWord g a0 a1 a2 a3 a4 a5 a6 a7 a8 a9 a10 a11 a12 a13 uv0 v1 v2 v3 uv4 v5 v6 v7 v8 uv9 uv10 uv11 ∧ post r uv0 uv4 uv9 uv10 uv11) := by
  refine cm_of (cc := cX9_bestWord) (nL := 2) (ret := (some .long)) (by decide +kernel) rfl (Nat.le_of_ble_eq_true rfl) ?_
  intro x hf hl hg hn hi hr
  subst hl
  subst hg
  show ww x (W_X9_bestWord (xg x) a0 a1 a2 a3 a4 a5 a6 a7 a8 a9 a10 a11 a12 a13 v0 v1 v2 v3 v4 v5 v6 v7 v8 v9 v10 v11) [(0, .ref a0), (1, .int p1)] 0 0 0 []
  unfold P_X9_bestWord at h
  refine xw_aload_n hf (pc := 0) dX9_bestWord_0 rfl 0 rfl ?_
  refine xw_aload_n hf (pc := 1) dX9_bestWord_1 rfl 0 rfl ?_
  refine xw_iload_n hf (pc := 2) dX9_bestWord_2 rfl 1 rfl ?_
  refine xw_callV hf (pc := 3) (nA := 1) (Xr := [(a0, .inr (9, [.int v0, .ref a1, .int v1, .ref a2, .ref a3, .ref a7, .ref a8, .ref a9, .ref a10, .ref a11, .int v2, .int v3, .ref a4, .int v4, .ref a5, .ref a6, .ref a12, .ref a13, .int v5])), (a1, .inl (gJ (xg x), 60, .inr (.inl v6))), (a2, .inl (gI (xg x), 27, .inl v7)), (a3, .inl (gI (xg x), 27, .inl v8)), (a4, .inl (gI (xg x), 12, .inl v9)), (a5, .inl (gI (xg x), 27, .inl v10)), (a6, .inl (gI (xg x), 27, .inl v11))]) (rest := [.ref a0]) (T := TX9) (c_X9_isBudget (xl x) (xg x) a0 p1 h) gX9_bestWord_X9_isBudget (by rfl) rfl rfl (by decide +kernel) ⟨⟨(Nat.le_of_ble_eq_true rfl), (Nat.le_of_ble_eq_true rfl)⟩, (Nat.le_of_ble_eq_true rfl), (Nat.le_of_ble_eq_true rfl)⟩ (Nat.le_of_ble_eq_true rfl) rfl rfl (sb_rf _) rfl dX9_bestWord_3 (fun v X1 hp => ?_)
  obtain ⟨r1, rfl, rfl, h⟩ := hp
  show ww x (W_X9_bestWord (xg x) a0 a1 a2 a3 a4 a5 a6 a7 a8 a9 a10 a11 a12 a13 v0 v1 v2 v3 v4 v5 v6 v7 v8 v9 v10 v11) [(0, .ref a0), (1, .int p1)] 0 0 6 [.int r1, .ref a0]
  refine xw_callV hf (pc := 6) (nA := 1) (Xr := [(a1, .inl (gJ (xg x), 60, .inr (.inl v6))), (a2, .inl (gI (xg x), 27, .inl v7)), (a3, .inl (gI (xg x), 27, .inl v8)), (a4, .inl (gI (xg x), 12, .inl v9)), (a5, .inl (gI (xg x), 27, .inl v10)), (a6, .inl (gI (xg x), 27, .inl v11))]) (rest := []) (T := TX9) (c_X9_isGood (xl x) (xg x) a0 a1 a2 a3 a7 a8 a9 a10 a11 a4 a5 a6 a12 a13 v0 v1 v2 v3 v4 v5 r1 h) gX9_bestWord_X9_isGood (by rfl) rfl rfl (by decide +kernel) ⟨⟨(Nat.le_of_ble_eq_true rfl), (Nat.le_of_ble_eq_true rfl)⟩, (Nat.le_of_ble_eq_true rfl), (Nat.le_of_ble_eq_true rfl)⟩ (Nat.le_of_ble_eq_true rfl) rfl rfl (sb_of [0, 1, 2, 3, 4, 5, 6] rfl rfl) rfl dX9_bestWord_6 (fun v X1 hp => ?_)
  obtain ⟨r2, w3, rfl, rfl, h⟩ := hp
  refine xw_X (sb_of [0, 1, 2, 3, 4, 5, 6] rfl rfl) (show ww x (W_X9_bestWord (xg x) a0 a1 a2 a3 a4 a5 a6 a7 a8 a9 a10 a11 a12 a13 w3 v1 v2 v3 v4 v5 v6 v7 v8 v9 v10 v11) [(0, .ref a0), (1, .int p1)] 0 0 9 [.int r2] from ?_)
  refine xw_if_eq hf (pc := 9) dX9_bestWord_9 (c := r2 = 0) Iff.rfl (tgt := 20) rfl ⟨fun c => ?_, fun c => ?_⟩
  · have h := h.1 c
    refine xw_lconst hf (pc := 20) dX9_bestWord_20 (v := 0) (by decide) ?_
    exact xw_lret hf (pc := 21) dX9_bestWord_21 hr (Nat.le_of_ble_eq_true rfl) (Nat.le_of_ble_eq_true rfl) ⟨_, _, _, _, _, _, rfl, rfl, h⟩
  · have h := h.2 c
    refine xw_aload_n hf (pc := 12) dX9_bestWord_12 rfl 0 rfl ?_
    refine xw_iload_n hf (pc := 13) dX9_bestWord_13 rfl 1 rfl ?_
    refine xw_callV hf (pc := 14) (nA := 1) (Xr := []) (rest := []) (T := TX9) (c_X9_best (xl x) (xg x) a0 a1 a2 a3 a4 a5 a6 a7 a8 a9 a10 a11 a12 a13 w3 v1 v2 v3 v4 v5 v6 v7 v8 v9 v10 v11 p1 h) gX9_bestWord_X9_best (by rfl) rfl rfl (by decide +kernel) ⟨⟨(Nat.le_of_ble_eq_true rfl), (Nat.le_of_ble_eq_true rfl)⟩, (Nat.le_of_ble_eq_true rfl), (Nat.le_of_ble_eq_true rfl)⟩ (Nat.le_of_ble_eq_true rfl) rfl rfl (sb_of [0, 1, 2, 3, 4, 5, 6] rfl rfl) rfl dX9_bestWord_14 (fun v X1 hp => ?_)
    obtain ⟨r4, w5, w6, w7, w8, rfl, rfl, h⟩ := hp
    refine xw_X (sb_of [0, 1, 2, 3, 4, 5, 6] rfl rfl) (show ww x (W_X9_bestWord (xg x) a0 a1 a2 a3 a4 a5 a6 a7 a8 a9 a10 a11 a12 a13 w3 v1 v2 v3 w5 v5 v6 v7 v8 w6 w7 w8) [(0, .ref a0), (1, .int p1)] 0 0 17 [.long r4] from ?_)
    refine xw_goto hf (pc := 17) dX9_bestWord_17 (tgt := 21) rfl ?_
    exact xw_lret hf (pc := 21) dX9_bestWord_21 hr (Nat.le_of_ble_eq_true rfl) (Nat.le_of_ble_eq_true rfl) ⟨_, _, _, _, _, _, rfl, rfl, h⟩
