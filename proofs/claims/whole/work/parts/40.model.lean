abbrev W_X9_thrown (g : Gx) (a0 a1 a2 a3 a4 a5 a6 a7 a8 a9 a10 a11 a12 a13 : Nat) (v0 : Int32) (v1 : Int32) (v2 : Int32) (v3 : Int32) (v4 : Int32) (v5 : Int32) : va_W := [(a0, .inr (9, [.int v0, .ref a1, .int v1, .ref a2, .ref a3, .ref a4, .ref a5, .ref a6, .ref a7, .ref a8, .int v2, .int v3, .ref a9, .int v4, .ref a10, .ref a11, .ref a12, .ref a13, .int v5]))]
abbrev rm_X9_thrown : Room := { frames := 0, cells := 0, slots := 0, locals := 0 }
theorem mw_X9_thrown_0 : (Cond.fieldLink RX9 55 "AnagramButcherModel" "thrown" "I" : Cond) ∈ wsX9_thrown := (List.mem_cons_of_mem _ (List.mem_append_left _ (List.mem_of_getElem? (i := 0) rfl)))
theorem mi_X9_thrown_X9 : ∀ w ∈ wsX90, w ∈ wsX9_thrown := fun _ h => (List.mem_cons_of_mem _ (List.mem_append_right _ h))
set_option maxHeartbeats 4000000 in
set_option maxRecDepth 100000 in
theorem c_X9_thrown (l : Launch) (g : Gx) (a0 a1 a2 a3 a4 a5 a6 a7 a8 a9 a10 a11 a12 a13 : Nat) (v0 : Int32) (v1 : Int32) (v2 : Int32) (v3 : Int32) (v4 : Int32) (v5 : Int32) {post : Int32 → Prop} (h : P_X9_thrown post v0 v1 v2 v3 v4 v5) : cm l g yX9_thrown wsX9_thrown (rm_X9_thrown) [.ref a0] (W_X9_thrown g a0 a1 a2 a3 a4 a5 a6 a7 a8 a9 a10 a11 a12 a13 v0 v1 v2 v3 v4 v5) (fun v X1 => ∃ (r : Int32), v = some (.int r) ∧ X1 = W_X9_thrown g a0 a1 a2 a3 a4 a5 a6 a7 a8 a9 a10 a11 a12 a13 v0 v1 v2 v3 v4 v5 ∧ post r) := by
  refine cm_of (cc := cX9_thrown) (nL := 1) (ret := (some .int)) (by decide +kernel) rfl (Nat.le_of_ble_eq_true rfl) ?_
  intro x hf hl hg hn hi hr
  subst hl
  subst hg
  show ww x (W_X9_thrown (xg x) a0 a1 a2 a3 a4 a5 a6 a7 a8 a9 a10 a11 a12 a13 v0 v1 v2 v3 v4 v5) [(0, .ref a0)] 0 0 0 []
  unfold P_X9_thrown at h
  refine xw_aload_n hf (pc := 0) dX9_thrown_0 rfl 0 rfl ?_
  refine xw_get hf (pc := 1) dX9_thrown_1 (T := TX9) mi_X9_thrown_X9 rfl 0 rfl 0 (by decide) rfl mw_X9_thrown_0 rfl ?_
  exact xw_iret hf (pc := 4) dX9_thrown_4 hr (Nat.le_of_ble_eq_true rfl) (Nat.le_of_ble_eq_true rfl) ⟨_, rfl, rfl, h⟩
abbrev W_X9_fail (g : Gx) (a0 a1 a2 a3 a4 a5 a6 a7 a8 a9 a10 a11 a12 a13 : Nat) (v0 : Int32) (v1 : Int32) (v2 : Int32) (v3 : Int32) (v4 : Int32) (v5 : Int32) : va_W := [(a0, .inr (9, [.int v0, .ref a1, .int v1, .ref a2, .ref a3, .ref a4, .ref a5, .ref a6, .ref a7, .ref a8, .int v2, .int v3, .ref a9, .int v4, .ref a10, .ref a11, .ref a12, .ref a13, .int v5]))]
abbrev rm_X9_fail : Room := { frames := 0, cells := 0, slots := 0, locals := 0 }
theorem mw_X9_fail_0 : (Cond.fieldLink RX9 55 "AnagramButcherModel" "thrown" "I" : Cond) ∈ wsX9_fail := (List.mem_cons_of_mem _ (List.mem_append_left _ (List.mem_of_getElem? (i := 0) rfl)))
theorem mi_X9_fail_X9 : ∀ w ∈ wsX90, w ∈ wsX9_fail := fun _ h => (List.mem_cons_of_mem _ (List.mem_append_right _ h))
set_option maxHeartbeats 4000000 in
set_option maxRecDepth 100000 in
theorem c_X9_fail (l : Launch) (g : Gx) (a0 a1 a2 a3 a4 a5 a6 a7 a8 a9 a10 a11 a12 a13 : Nat) (v0 : Int32) (v1 : Int32) (v2 : Int32) (v3 : Int32) (v4 : Int32) (v5 : Int32) (p1 : Int32) {post : Int32 → Int32 → Prop} (h : P_X9_fail post p1 v0 v1 v2 v3 v4 v5) : cm l g yX9_fail wsX9_fail (rm_X9_fail) [.ref a0, .int p1] (W_X9_fail g a0 a1 a2 a3 a4 a5 a6 a7 a8 a9 a10 a11 a12 a13 v0 v1 v2 v3 v4 v5) (fun v X1 => ∃ (r : Int32) (uv0 : Int32), v = some (.int r) ∧ X1 = W_X9_fail g a0 a1 a2 a3 a4 a5 a6 a7 a8 a9 a10 a11 a12 a13 uv0 v1 v2 v3 v4 v5 ∧ post r uv0) := by
  refine cm_of (cc := cX9_fail) (nL := 2) (ret := (some .int)) (by decide +kernel) rfl (Nat.le_of_ble_eq_true rfl) ?_
  intro x hf hl hg hn hi hr
  subst hl
  subst hg
  show ww x (W_X9_fail (xg x) a0 a1 a2 a3 a4 a5 a6 a7 a8 a9 a10 a11 a12 a13 v0 v1 v2 v3 v4 v5) [(0, .ref a0), (1, .int p1)] 0 0 0 []
  unfold P_X9_fail at h
  refine xw_aload_n hf (pc := 0) dX9_fail_0 rfl 0 rfl ?_
  refine xw_iload_n hf (pc := 1) dX9_fail_1 rfl 1 rfl ?_
  refine xw_put hf (pc := 2) dX9_fail_2 (T := TX9) mi_X9_fail_X9 rfl tyX9_ok nmX9 0 rfl 0 (by decide) rfl mw_X9_fail_0 rfl rfl rfl rfl (Nat.le_of_ble_eq_true rfl) (W_X9_fail (xg x) a0 a1 a2 a3 a4 a5 a6 a7 a8 a9 a10 a11 a12 a13 p1 v1 v2 v3 v4 v5) rfl ?_
  refine xw_iconst hf (pc := 5) dX9_fail_5 (v := 0) (by decide) ?_
  exact xw_iret hf (pc := 6) dX9_fail_6 hr (Nat.le_of_ble_eq_true rfl) (Nat.le_of_ble_eq_true rfl) ⟨_, _, rfl, rfl, h⟩
abbrev W_X9_isWithin (g : Gx) : va_W := []
abbrev rm_X9_isWithin : Room := { frames := 0, cells := 0, slots := 0, locals := 0 }
set_option maxHeartbeats 4000000 in
set_option maxRecDepth 100000 in
theorem c_X9_isWithin (l : Launch) (g : Gx) (p0 : Int32) (p1 : Int32) (p2 : Int32) {post : Int32 → Prop} (h : P_X9_isWithin post p0 p1 p2 ) : cm l g yX9_isWithin wsX9_isWithin (rm_X9_isWithin) [.int p0, .int p1, .int p2] (W_X9_isWithin g) (fun v X1 => ∃ (r : Int32), v = some (.int r) ∧ X1 = W_X9_isWithin g ∧ post r) := by
  refine cm_of (cc := cX9_isWithin) (nL := 3) (ret := (some .boolean)) (by decide +kernel) rfl (Nat.le_of_ble_eq_true rfl) ?_
  intro x hf hl hg hn hi hr
  subst hl
  subst hg
  show ww x (W_X9_isWithin (xg x)) [(0, .int p0), (1, .int p1), (2, .int p2)] 0 0 0 []
  unfold P_X9_isWithin at h
  refine xw_iload_n hf (pc := 0) dX9_isWithin_0 rfl 0 rfl ?_
  refine xw_iload_n hf (pc := 1) dX9_isWithin_1 rfl 1 rfl ?_
  refine xw_icmp_lt hf (pc := 2) dX9_isWithin_2 (tgt := 14) rfl ⟨fun c => ?_, fun c => ?_⟩
  · have h := h.1 c
    refine xw_iconst hf (pc := 14) dX9_isWithin_14 (v := 0) (by decide) ?_
    exact xw_zret hf (pc := 15) dX9_isWithin_15 hr (Nat.le_of_ble_eq_true rfl) (Nat.le_of_ble_eq_true rfl) rfl ⟨_, rfl, rfl, h⟩
  · have h := h.2 c
    refine xw_iload_n hf (pc := 5) dX9_isWithin_5 rfl 0 rfl ?_
    refine xw_iload_n hf (pc := 6) dX9_isWithin_6 rfl 2 rfl ?_
    refine xw_icmp_gt hf (pc := 7) dX9_isWithin_7 (tgt := 14) rfl ⟨fun c => ?_, fun c => ?_⟩
    · have h := h.1 c
      refine xw_iconst hf (pc := 14) dX9_isWithin_14 (v := 0) (by decide) ?_
      exact xw_zret hf (pc := 15) dX9_isWithin_15 hr (Nat.le_of_ble_eq_true rfl) (Nat.le_of_ble_eq_true rfl) rfl ⟨_, rfl, rfl, h⟩
    · have h := h.2 c
      refine xw_iconst hf (pc := 10) dX9_isWithin_10 (v := 1) (by decide) ?_
      refine xw_goto hf (pc := 11) dX9_isWithin_11 (tgt := 15) rfl ?_
      exact xw_zret hf (pc := 15) dX9_isWithin_15 hr (Nat.le_of_ble_eq_true rfl) (Nat.le_of_ble_eq_true rfl) rfl ⟨_, rfl, rfl, h⟩
abbrev W_X9_isGood (g : Gx) (a0 a1 a2 a3 a4 a5 a6 a7 a8 a9 a10 a11 a12 a13 : Nat) (v0 : Int32) (v1 : Int32) (v2 : Int32) (v3 : Int32) (v4 : Int32) (v5 : Int32) : va_W := [(a0, .inr (9, [.int v0, .ref a1, .int v1, .ref a2, .ref a3, .ref a4, .ref a5, .ref a6, .ref a7, .ref a8, .int v2, .int v3, .ref a9, .int v4, .ref a10, .ref a11, .ref a12, .ref a13, .int v5]))]
abbrev rm_X9_isGood : Room := { frames := 0, cells := 0, slots := 0, locals := 0 }
theorem mw_X9_isGood_0 : (Cond.fieldLink RX9 55 "AnagramButcherModel" "thrown" "I" : Cond) ∈ wsX9_isGood := (List.mem_cons_of_mem _ (List.mem_append_left _ (List.mem_of_getElem? (i := 0) rfl)))
theorem mi_X9_isGood_X9 : ∀ w ∈ wsX90, w ∈ wsX9_isGood := fun _ h => (List.mem_cons_of_mem _ (List.mem_append_right _ h))
set_option maxHeartbeats 4000000 in
set_option maxRecDepth 100000 in
theorem c_X9_isGood (l : Launch) (g : Gx) (a0 a1 a2 a3 a4 a5 a6 a7 a8 a9 a10 a11 a12 a13 : Nat) (v0 : Int32) (v1 : Int32) (v2 : Int32) (v3 : Int32) (v4 : Int32) (v5 : Int32) (p1 : Int32) {post : Int32 → Int32 → Prop} (h : P_X9_isGood post p1 v0 v1 v2 v3 v4 v5) : cm l g yX9_isGood wsX9_isGood (rm_X9_isGood) [.ref a0, .int p1] (W_X9_isGood g a0 a1 a2 a3 a4 a5 a6 a7 a8 a9 a10 a11 a12 a13 v0 v1 v2 v3 v4 v5) (fun v X1 => ∃ (r : Int32) (uv0 : Int32), v = some (.int r) ∧ X1 = W_X9_isGood g a0 a1 a2 a3 a4 a5 a6 a7 a8 a9 a10 a11 a12 a13 uv0 v1 v2 v3 v4 v5 ∧ post r uv0) := by
  refine cm_of (cc := cX9_isGood) (nL := 2) (ret := (some .boolean)) (by decide +kernel) rfl (Nat.le_of_ble_eq_true rfl) ?_
  intro x hf hl hg hn hi hr
  subst hl
  subst hg
  show ww x (W_X9_isGood (xg x) a0 a1 a2 a3 a4 a5 a6 a7 a8 a9 a10 a11 a12 a13 v0 v1 v2 v3 v4 v5) [(0, .ref a0), (1, .int p1)] 0 0 0 []
  unfold P_X9_isGood at h
  refine xw_aload_n hf (pc := 0) dX9_isGood_0 rfl 0 rfl ?_
  refine xw_iload_n hf (pc := 1) dX9_isGood_1 rfl 1 rfl ?_
  refine xw_if_eq hf (pc := 2) dX9_isGood_2 (c := p1 = 0) Iff.rfl (tgt := 9) rfl ⟨fun c => ?_, fun c => ?_⟩
  · have h := h.1 c
    refine xw_iconst hf (pc := 9) dX9_isGood_9 (v := 1) (by decide) ?_
    refine xw_put hf (pc := 10) dX9_isGood_10 (T := TX9) mi_X9_isGood_X9 rfl tyX9_ok nmX9 0 rfl 0 (by decide) rfl mw_X9_isGood_0 rfl rfl rfl rfl (Nat.le_of_ble_eq_true rfl) (W_X9_isGood (xg x) a0 a1 a2 a3 a4 a5 a6 a7 a8 a9 a10 a11 a12 a13 1 v1 v2 v3 v4 v5) rfl ?_
    refine xw_iload_n hf (pc := 13) dX9_isGood_13 rfl 1 rfl ?_
    exact xw_zret hf (pc := 14) dX9_isGood_14 hr (Nat.le_of_ble_eq_true rfl) (Nat.le_of_ble_eq_true rfl) h.1 ⟨_, _, rfl, rfl, h.2⟩
  · have h := h.2 c
    refine xw_iconst hf (pc := 5) dX9_isGood_5 (v := 0) (by decide) ?_
    refine xw_goto hf (pc := 6) dX9_isGood_6 (tgt := 10) rfl ?_
    refine xw_put hf (pc := 10) dX9_isGood_10 (T := TX9) mi_X9_isGood_X9 rfl tyX9_ok nmX9 0 rfl 0 (by decide) rfl mw_X9_isGood_0 rfl rfl rfl rfl (Nat.le_of_ble_eq_true rfl) (W_X9_isGood (xg x) a0 a1 a2 a3 a4 a5 a6 a7 a8 a9 a10 a11 a12 a13 0 v1 v2 v3 v4 v5) rfl ?_
    refine xw_iload_n hf (pc := 13) dX9_isGood_13 rfl 1 rfl ?_
    exact xw_zret hf (pc := 14) dX9_isGood_14 hr (Nat.le_of_ble_eq_true rfl) (Nat.le_of_ble_eq_true rfl) h.1 ⟨_, _, rfl, rfl, h.2⟩
abbrev W_X9_lengthOf (g : Gx) : va_W := []
abbrev rm_X9_lengthOf : Room := { frames := 0, cells := 0, slots := 0, locals := 0 }
set_option maxHeartbeats 4000000 in
set_option maxRecDepth 100000 in
theorem w_X9_lengthOf_L4 {x : Cx} (hf : fx x (rm_X9_lengthOf) RX9 cX9_lengthOf wsX9_lengthOf) (hn : xn x = 5) {k0 n0 : Nat} (hk : k0 ≤ (rm_X9_lengthOf).cells ∧ n0 ≤ (rm_X9_lengthOf).slots) {K20 : Int32 → Prop}
    (n : Nat) (z2 : Int32) (z3 : Int64) (h : P_X9_lengthOf_L4 K20 n z2 z3)
    (hK20 : ∀ (y2 : Int32), K20 y2 → ww x (W_X9_lengthOf (xg x)) [(2, .int y2)] k0 n0 20 []) :
    ww x (W_X9_lengthOf (xg x)) [(2, .int z2), (3, .long z3)] k0 n0 4 [] := by
  induction n generalizing z2 z3 with
  | zero => exact h.elim
  | succ n ih =>
    unfold P_X9_lengthOf_L4 at h
    refine xw_lload_n hf (pc := 4) dX9_lengthOf_4 rfl 1 rfl ?_
    refine xw_lconst hf (pc := 5) dX9_lengthOf_5 (v := 0) (by decide) ?_
    refine xw_lcmp hf (pc := 6) dX9_lengthOf_6 ?_
    refine xw_if_le hf (pc := 7) dX9_lengthOf_7 (c := z3 ≤ 0) (lc_le _ _) (tgt := 20) rfl ⟨fun c => ?_, fun c => ?_⟩
    · have h := h.1 c
      refine xw_L [0] rfl ?_
      exact hK20 _ h
    · have h := h.2 c
      refine xw_iinc hf (pc := 10) dX9_lengthOf_10 (v := z2 + 1) 0 rfl rfl [(2, .int (z2 + 1)), (3, .long z3)] hn (by decide) rfl ?_
      refine xw_lload_n hf (pc := 13) dX9_lengthOf_13 rfl 1 rfl ?_
      refine xw_iconst hf (pc := 14) dX9_lengthOf_14 (v := 5) (by decide) ?_
      refine xw_lshr hf (pc := 15) dX9_lengthOf_15 ?_
      refine xw_topl (fun y1 ey1 => ?_)
      have h := h y1 ey1
      refine xw_lstore_n hf (pc := 16) dX9_lengthOf_16 rfl [(3, .long y1), (2, .int (z2 + 1))] hn (by decide) rfl ?_
      refine xw_goto hf (pc := 17) dX9_lengthOf_17 (tgt := 4) rfl ?_
      refine xw_L [1, 0] rfl ?_
      exact ih _ _ h
set_option maxHeartbeats 4000000 in
set_option maxRecDepth 100000 in
theorem c_X9_lengthOf (l : Launch) (g : Gx) (p0 : Int64) {post : Int32 → Prop} (h : P_X9_lengthOf post p0 ) : cm l g yX9_lengthOf wsX9_lengthOf (rm_X9_lengthOf) [.long p0] (W_X9_lengthOf g) (fun v X1 => ∃ (r : Int32), v = some (.int r) ∧ X1 = W_X9_lengthOf g ∧ post r) := by
  refine cm_of (cc := cX9_lengthOf) (nL := 5) (ret := (some .int)) (by decide +kernel) rfl (Nat.le_of_ble_eq_true rfl) ?_
  intro x hf hl hg hn hi hr
  subst hl
  subst hg
  show ww x (W_X9_lengthOf (xg x)) [(0, .long p0)] 0 0 0 []
  unfold P_X9_lengthOf at h
  refine xw_iconst hf (pc := 0) dX9_lengthOf_0 (v := 0) (by decide) ?_
  refine xw_istore_n hf (pc := 1) dX9_lengthOf_1 rfl [(2, .int 0), (0, .long p0)] hn (by decide) rfl ?_
  refine xw_lload_n hf (pc := 2) dX9_lengthOf_2 rfl 1 rfl ?_
  refine xw_lstore_n hf (pc := 3) dX9_lengthOf_3 rfl [(3, .long p0), (2, .int 0), (0, .long p0)] hn (by decide) rfl ?_
  refine xw_L [1, 0] rfl ?_
  refine w_X9_lengthOf_L4 hf hn ⟨(Nat.le_of_ble_eq_true rfl), (Nat.le_of_ble_eq_true rfl)⟩ FU _ _ h (fun x2 h => ?_)
  refine xw_iload_n hf (pc := 20) dX9_lengthOf_20 rfl 0 rfl ?_
  exact xw_iret hf (pc := 21) dX9_lengthOf_21 hr (Nat.le_of_ble_eq_true rfl) (Nat.le_of_ble_eq_true rfl) ⟨_, rfl, rfl, h⟩
abbrev W_X9_isWord (g : Gx) : va_W := []
abbrev rm_X9_isWord : Room := { frames := 1, cells := 0, slots := 0, locals := 24 }
theorem mw_X9_isWord_0 : (Cond.constantLong RX9 63 (31) : Cond) ∈ wsX9_isWord := (List.mem_cons_of_mem _ (List.mem_of_getElem? (i := 0) rfl))
set_option maxHeartbeats 4000000 in
set_option maxRecDepth 100000 in
theorem w_X9_isWord_L23 {x : Cx} (hf : fx x (rm_X9_isWord) RX9 cX9_isWord wsX9_isWord) (hn : xn x = 5) {k0 n0 : Nat} (hk : k0 ≤ (rm_X9_isWord).cells ∧ n0 ≤ (rm_X9_isWord).slots) {K61 : Int32 → Prop}
    (n : Nat) (z2 : Int32) (z3 : Int64) (h : P_X9_isWord_L23 K61 n z2 z3)
    (hK61 : ∀ (y2 : Int32), K61 y2 → ww x (W_X9_isWord (xg x)) [(2, .int y2)] k0 n0 61 []) :
    ww x (W_X9_isWord (xg x)) [(2, .int z2), (3, .long z3)] k0 n0 23 [] := by
  induction n generalizing z2 z3 with
  | zero => exact h.elim
  | succ n ih =>
    unfold P_X9_isWord_L23 at h
    refine xw_lload_n hf (pc := 23) dX9_isWord_23 rfl 1 rfl ?_
    refine xw_lconst hf (pc := 24) dX9_isWord_24 (v := 0) (by decide) ?_
    refine xw_lcmp hf (pc := 25) dX9_isWord_25 ?_
    refine xw_if_le hf (pc := 26) dX9_isWord_26 (c := z3 ≤ 0) (lc_le _ _) (tgt := 61) rfl ⟨fun c => ?_, fun c => ?_⟩
    · have h := h.1 c
      refine xw_L [0] rfl ?_
      exact hK61 _ h
    · have h := h.2 c
      refine xw_iload_n hf (pc := 29) dX9_isWord_29 rfl 0 rfl ?_
      refine xw_if_eq hf (pc := 30) dX9_isWord_30 (c := z2 = 0) Iff.rfl (tgt := 52) rfl ⟨fun c => ?_, fun c => ?_⟩
      · have h := h.1 c
        refine xw_iconst hf (pc := 52) dX9_isWord_52 (v := 0) (by decide) ?_
        refine xw_istore_n hf (pc := 53) dX9_isWord_53 rfl [(2, .int 0), (3, .long z3)] hn (by decide) rfl ?_
        refine xw_lload_n hf (pc := 54) dX9_isWord_54 rfl 1 rfl ?_
        refine xw_iconst hf (pc := 55) dX9_isWord_55 (v := 5) (by decide) ?_
        refine xw_lshr hf (pc := 56) dX9_isWord_56 ?_
        refine xw_topl (fun y1 ey1 => ?_)
        have h := h y1 ey1
        refine xw_lstore_n hf (pc := 57) dX9_isWord_57 rfl [(3, .long y1), (2, .int 0)] hn (by decide) rfl ?_
        refine xw_goto hf (pc := 58) dX9_isWord_58 (tgt := 23) rfl ?_
        refine xw_L [1, 0] rfl ?_
        exact ih _ _ h
      · have h := h.2 c
        refine xw_lload_n hf (pc := 33) dX9_isWord_33 rfl 1 rfl ?_
        refine xw_ldc2 hf (pc := 34) dX9_isWord_34 mw_X9_isWord_0 ?_
        refine xw_land hf (pc := 37) dX9_isWord_37 ?_
        refine xw_l2i hf (pc := 38) dX9_isWord_38 ?_
        refine xw_iconst hf (pc := 39) dX9_isWord_39 (v := 1) (by decide) ?_
        refine xw_bipush hf (pc := 40) dX9_isWord_40 (v := 26) (by decide) ?_
        refine xw_callS hf (pc := 42) (nA := 3) (Xr := W_X9_isWord (xg x)) (rest := []) (c_X9_isWithin (xl x) (xg x) ((z3 &&& 31).toInt32) 1 26 h) gX9_isWord_X9_isWithin (by rfl) rfl (by decide +kernel) ⟨⟨(Nat.le_of_ble_eq_true rfl), (Nat.le_of_ble_eq_true rfl)⟩, hk.1, hk.2⟩ (Nat.le_of_ble_eq_true rfl) (sb_rf _) rfl dX9_isWord_42 (fun v X1 hp => ?_)
        obtain ⟨r2, rfl, rfl, h⟩ := hp
        show ww x (W_X9_isWord (xg x)) [(2, .int z2), (3, .long z3)] k0 n0 45 [.int r2]
        refine xw_if_eq hf (pc := 45) dX9_isWord_45 (c := r2 = 0) Iff.rfl (tgt := 52) rfl ⟨fun c => ?_, fun c => ?_⟩
        · have h := h.1 c
          refine xw_iconst hf (pc := 52) dX9_isWord_52 (v := 0) (by decide) ?_
          refine xw_istore_n hf (pc := 53) dX9_isWord_53 rfl [(2, .int 0), (3, .long z3)] hn (by decide) rfl ?_
          refine xw_lload_n hf (pc := 54) dX9_isWord_54 rfl 1 rfl ?_
          refine xw_iconst hf (pc := 55) dX9_isWord_55 (v := 5) (by decide) ?_
          refine xw_lshr hf (pc := 56) dX9_isWord_56 ?_
          refine xw_topl (fun y3 ey3 => ?_)
          have h := h y3 ey3
          refine xw_lstore_n hf (pc := 57) dX9_isWord_57 rfl [(3, .long y3), (2, .int 0)] hn (by decide) rfl ?_
          refine xw_goto hf (pc := 58) dX9_isWord_58 (tgt := 23) rfl ?_
          refine xw_L [1, 0] rfl ?_
          exact ih _ _ h
        · have h := h.2 c
          refine xw_iconst hf (pc := 48) dX9_isWord_48 (v := 1) (by decide) ?_
          refine xw_goto hf (pc := 49) dX9_isWord_49 (tgt := 53) rfl ?_
          refine xw_istore_n hf (pc := 53) dX9_isWord_53 rfl [(2, .int 1), (3, .long z3)] hn (by decide) rfl ?_
          refine xw_lload_n hf (pc := 54) dX9_isWord_54 rfl 1 rfl ?_
          refine xw_iconst hf (pc := 55) dX9_isWord_55 (v := 5) (by decide) ?_
          refine xw_lshr hf (pc := 56) dX9_isWord_56 ?_
          refine xw_topl (fun y4 ey4 => ?_)
          have h := h y4 ey4
          refine xw_lstore_n hf (pc := 57) dX9_isWord_57 rfl [(3, .long y4), (2, .int 1)] hn (by decide) rfl ?_
          refine xw_goto hf (pc := 58) dX9_isWord_58 (tgt := 23) rfl ?_
          refine xw_L [1, 0] rfl ?_
          exact ih _ _ h
set_option maxHeartbeats 4000000 in
set_option maxRecDepth 100000 in
theorem c_X9_isWord (l : Launch) (g : Gx) (p0 : Int64) {post : Int32 → Prop} (h : P_X9_isWord post p0 ) : cm l g yX9_isWord wsX9_isWord (rm_X9_isWord) [.long p0] (W_X9_isWord g) (fun v X1 => ∃ (r : Int32), v = some (.int r) ∧ X1 = W_X9_isWord g ∧ post r) := by
  refine cm_of (cc := cX9_isWord) (nL := 5) (ret := (some .boolean)) (by decide +kernel) rfl (Nat.le_of_ble_eq_true rfl) ?_
  intro x hf hl hg hn hi hr
  subst hl
  subst hg
  show ww x (W_X9_isWord (xg x)) [(0, .long p0)] 0 0 0 []
  unfold P_X9_isWord at h
  refine xw_lload_n hf (pc := 0) dX9_isWord_0 rfl 0 rfl ?_
  refine xw_lconst hf (pc := 1) dX9_isWord_1 (v := 0) (by decide) ?_
  refine xw_lcmp hf (pc := 2) dX9_isWord_2 ?_
  refine xw_if_le hf (pc := 3) dX9_isWord_3 (c := p0 ≤ 0) (lc_le _ _) (tgt := 19) rfl ⟨fun c => ?_, fun c => ?_⟩
  · have h := h.1 c
    refine xw_iconst hf (pc := 19) dX9_isWord_19 (v := 0) (by decide) ?_
    refine xw_istore_n hf (pc := 20) dX9_isWord_20 rfl [(2, .int 0), (0, .long p0)] hn (by decide) rfl ?_
    refine xw_lload_n hf (pc := 21) dX9_isWord_21 rfl 1 rfl ?_
    refine xw_lstore_n hf (pc := 22) dX9_isWord_22 rfl [(3, .long p0), (2, .int 0), (0, .long p0)] hn (by decide) rfl ?_
    refine xw_L [1, 0] rfl ?_
    refine w_X9_isWord_L23 hf hn ⟨(Nat.le_of_ble_eq_true rfl), (Nat.le_of_ble_eq_true rfl)⟩ FU _ _ h (fun x5 h => ?_)
    refine xw_iload_n hf (pc := 61) dX9_isWord_61 rfl 0 rfl ?_
    exact xw_zret hf (pc := 62) dX9_isWord_62 hr (Nat.le_of_ble_eq_true rfl) (Nat.le_of_ble_eq_true rfl) h.1 ⟨_, rfl, rfl, h.2⟩
  · have h := h.2 c
    refine xw_lload_n hf (pc := 6) dX9_isWord_6 rfl 0 rfl ?_
    refine xw_callS hf (pc := 7) (nA := 1) (Xr := W_X9_isWord (xg x)) (rest := []) (c_X9_lengthOf (xl x) (xg x) p0 h) gX9_isWord_X9_lengthOf (by rfl) rfl (by decide +kernel) ⟨⟨(Nat.le_of_ble_eq_true rfl), (Nat.le_of_ble_eq_true rfl)⟩, (Nat.le_of_ble_eq_true rfl), (Nat.le_of_ble_eq_true rfl)⟩ (Nat.le_of_ble_eq_true rfl) (sb_rf _) rfl dX9_isWord_7 (fun v X1 hp => ?_)
    obtain ⟨r6, rfl, rfl, h⟩ := hp
    show ww x (W_X9_isWord (xg x)) [(0, .long p0)] 0 0 10 [.int r6]
    refine xw_bipush hf (pc := 10) dX9_isWord_10 (v := 12) (by decide) ?_
    refine xw_icmp_gt hf (pc := 12) dX9_isWord_12 (tgt := 19) rfl ⟨fun c => ?_, fun c => ?_⟩
    · have h := h.1 c
      refine xw_iconst hf (pc := 19) dX9_isWord_19 (v := 0) (by decide) ?_
      refine xw_istore_n hf (pc := 20) dX9_isWord_20 rfl [(2, .int 0), (0, .long p0)] hn (by decide) rfl ?_
      refine xw_lload_n hf (pc := 21) dX9_isWord_21 rfl 1 rfl ?_
      refine xw_lstore_n hf (pc := 22) dX9_isWord_22 rfl [(3, .long p0), (2, .int 0), (0, .long p0)] hn (by decide) rfl ?_
      refine xw_L [1, 0] rfl ?_
      refine w_X9_isWord_L23 hf hn ⟨(Nat.le_of_ble_eq_true rfl), (Nat.le_of_ble_eq_true rfl)⟩ FU _ _ h (fun x7 h => ?_)
      refine xw_iload_n hf (pc := 61) dX9_isWord_61 rfl 0 rfl ?_
      exact xw_zret hf (pc := 62) dX9_isWord_62 hr (Nat.le_of_ble_eq_true rfl) (Nat.le_of_ble_eq_true rfl) h.1 ⟨_, rfl, rfl, h.2⟩
    · have h := h.2 c
      refine xw_iconst hf (pc := 15) dX9_isWord_15 (v := 1) (by decide) ?_
      refine xw_goto hf (pc := 16) dX9_isWord_16 (tgt := 20) rfl ?_
      refine xw_istore_n hf (pc := 20) dX9_isWord_20 rfl [(2, .int 1), (0, .long p0)] hn (by decide) rfl ?_
      refine xw_lload_n hf (pc := 21) dX9_isWord_21 rfl 1 rfl ?_
      refine xw_lstore_n hf (pc := 22) dX9_isWord_22 rfl [(3, .long p0), (2, .int 1), (0, .long p0)] hn (by decide) rfl ?_
      refine xw_L [1, 0] rfl ?_
      refine w_X9_isWord_L23 hf hn ⟨(Nat.le_of_ble_eq_true rfl), (Nat.le_of_ble_eq_true rfl)⟩ FU _ _ h (fun x8 h => ?_)
      refine xw_iload_n hf (pc := 61) dX9_isWord_61 rfl 0 rfl ?_
      exact xw_zret hf (pc := 62) dX9_isWord_62 hr (Nat.le_of_ble_eq_true rfl) (Nat.le_of_ble_eq_true rfl) h.1 ⟨_, rfl, rfl, h.2⟩
abbrev W_X9_key (g : Gx) : va_W := []
abbrev rm_X9_key : Room := { frames := 1, cells := 0, slots := 0, locals := 24 }
set_option maxHeartbeats 4000000 in
set_option maxRecDepth 100000 in
theorem c_X9_key (l : Launch) (g : Gx) (p0 : Int64) {post : Int64 → Prop} (h : P_X9_key post p0 ) : cm l g yX9_key wsX9_key (rm_X9_key) [.long p0] (W_X9_key g) (fun v X1 => ∃ (r : Int64), v = some (.long r) ∧ X1 = W_X9_key g ∧ post r) := by
  refine cm_of (cc := cX9_key) (nL := 2) (ret := (some .long)) (by decide +kernel) rfl (Nat.le_of_ble_eq_true rfl) ?_
  intro x hf hl hg hn hi hr
  subst hl
  subst hg
  show ww x (W_X9_key (xg x)) [(0, .long p0)] 0 0 0 []
  unfold P_X9_key at h
  refine xw_lload_n hf (pc := 0) dX9_key_0 rfl 0 rfl ?_
  refine xw_iconst hf (pc := 1) dX9_key_1 (v := 5) (by decide) ?_
  refine xw_bipush hf (pc := 2) dX9_key_2 (v := 12) (by decide) ?_
  refine xw_lload_n hf (pc := 4) dX9_key_4 rfl 0 rfl ?_
  refine xw_callS hf (pc := 5) (nA := 1) (Xr := W_X9_key (xg x)) (rest := [.int 12, .int 5, .long p0]) (c_X9_lengthOf (xl x) (xg x) p0 h) gX9_key_X9_lengthOf (by rfl) rfl (by decide +kernel) ⟨⟨(Nat.le_of_ble_eq_true rfl), (Nat.le_of_ble_eq_true rfl)⟩, (Nat.le_of_ble_eq_true rfl), (Nat.le_of_ble_eq_true rfl)⟩ (Nat.le_of_ble_eq_true rfl) (sb_rf _) rfl dX9_key_5 (fun v X1 hp => ?_)
  obtain ⟨r1, rfl, rfl, h⟩ := hp
  show ww x (W_X9_key (xg x)) [(0, .long p0)] 0 0 8 [.int r1, .int 12, .int 5, .long p0]
  refine xw_isub hf (pc := 8) dX9_key_8 ?_
  refine xw_imul hf (pc := 9) dX9_key_9 ?_
  refine xw_lshl hf (pc := 10) dX9_key_10 ?_
  exact xw_lret hf (pc := 11) dX9_key_11 hr (Nat.le_of_ble_eq_true rfl) (Nat.le_of_ble_eq_true rfl) ⟨_, rfl, rfl, h⟩
abbrev W_X9_spell (g : Gx) (a0 a1 a2 a3 a4 a5 a6 a7 a8 a9 a10 a11 a12 a13 : Nat) (v0 : Int32) (v1 : Int32) (v2 : Int32) (v3 : Int32) (v4 : Int32) (v5 : Int32) (v6 : Nat → Int32) (v7 : Nat → Int32) : va_W := [(a0, .inr (9, [.int v0, .ref a3, .int v1, .ref a4, .ref a5, .ref a6, .ref a7, .ref a8, .ref a9, .ref a10, .int v2, .int v3, .ref a1, .int v4, .ref a2, .ref a11, .ref a12, .ref a13, .int v5])), (a1, .inl (gI g, 12, .inl v6)), (a2, .inl (gI g, 27, .inl v7))]
abbrev rm_X9_spell : Room := { frames := 1, cells := 0, slots := 0, locals := 24 }
theorem mw_X9_spell_0 : (Cond.fieldLink RX9 69 "AnagramButcherModel" "speltCount" "I" : Cond) ∈ wsX9_spell := (List.mem_cons_of_mem _ (List.mem_append_left _ (List.mem_of_getElem? (i := 0) rfl)))
theorem mw_X9_spell_1 : (Cond.fieldLink RX9 39 "AnagramButcherModel" "counts" "[I" : Cond) ∈ wsX9_spell := (List.mem_cons_of_mem _ (List.mem_append_left _ (List.mem_of_getElem? (i := 1) rfl)))
theorem mw_X9_spell_2 : (Cond.fieldLink RX9 36 "AnagramButcherModel" "spelt" "[I" : Cond) ∈ wsX9_spell := (List.mem_cons_of_mem _ (List.mem_append_left _ (List.mem_of_getElem? (i := 2) rfl)))
theorem mi_X9_spell_X9 : ∀ w ∈ wsX90, w ∈ wsX9_spell := fun _ h => (List.mem_cons_of_mem _ (List.mem_append_right _ h))
set_option maxHeartbeats 4000000 in
set_option maxRecDepth 100000 in
theorem w_X9_spell_L10 {x : Cx} (hf : fx x (rm_X9_spell) RX9 cX9_spell wsX9_spell) (hn : xn x = 4) {k0 n0 : Nat} (hk : k0 ≤ (rm_X9_spell).cells ∧ n0 ≤ (rm_X9_spell).slots) (a0 a1 a2 a3 a4 a5 a6 a7 a8 a9 a10 a11 a12 a13 : Nat) (z1 : Int64) (v0 : Int32) (v1 : Int32) (v2 : Int32) (v3 : Int32) (v4 : Int32) (v5 : Int32) (v6 : Nat → Int32) {K29 : (Nat → Int32) → Prop}
    (n : Nat) (z3 : Int32) (v7 : Nat → Int32) (h : P_X9_spell_L10 z1 K29 n z3 v7)
    (hK29 : ∀ (uv7 : Nat → Int32), K29 uv7 → ww x (W_X9_spell (xg x) a0 a1 a2 a3 a4 a5 a6 a7 a8 a9 a10 a11 a12 a13 v0 v1 v2 v3 v4 v5 v6 uv7) [(0, .ref a0), (1, .long z1)] k0 n0 29 []) :
    ww x (W_X9_spell (xg x) a0 a1 a2 a3 a4 a5 a6 a7 a8 a9 a10 a11 a12 a13 v0 v1 v2 v3 v4 v5 v6 v7) [(0, .ref a0), (1, .long z1), (3, .int z3)] k0 n0 10 [] := by
  induction n generalizing z3 v7 with
  | zero => exact h.elim
  | succ n ih =>
    unfold P_X9_spell_L10 at h
    refine xw_iload_n hf (pc := 10) dX9_spell_10 rfl 2 rfl ?_
    refine xw_bipush hf (pc := 11) dX9_spell_11 (v := 26) (by decide) ?_
    refine xw_icmp_gt hf (pc := 13) dX9_spell_13 (tgt := 29) rfl ⟨fun c => ?_, fun c => ?_⟩
    · have h := h.1 c
      refine xw_L [0, 1] rfl ?_
      exact hK29 _ h
    · have h := h.2 c
      refine xw_aload_n hf (pc := 16) dX9_spell_16 rfl 0 rfl ?_
      refine xw_get hf (pc := 17) dX9_spell_17 (T := TX9) mi_X9_spell_X9 rfl 0 rfl 14 (by decide) rfl mw_X9_spell_1 rfl ?_
      refine xw_iload_n hf (pc := 20) dX9_spell_20 rfl 2 rfl ?_
      refine xw_iconst hf (pc := 21) dX9_spell_21 (v := 0) (by decide) ?_
      refine xw_iast hf (pc := 22) dX9_spell_22 2 rfl h.1 (W_X9_spell (xg x) a0 a1 a2 a3 a4 a5 a6 a7 a8 a9 a10 a11 a12 a13 v0 v1 v2 v3 v4 v5 v6 (upd v7 z3.toNatClampNeg 0)) rfl ?_
      have h := h.2
      refine xw_iinc hf (pc := 23) dX9_spell_23 (v := z3 + 1) 2 rfl rfl [(3, .int (z3 + 1)), (0, .ref a0), (1, .long z1)] hn (by decide) rfl ?_
      refine xw_goto hf (pc := 26) dX9_spell_26 (tgt := 10) rfl ?_
      refine xw_L [1, 2, 0] rfl ?_
      exact ih _ _ h
set_option maxHeartbeats 4000000 in
set_option maxRecDepth 100000 in
theorem w_X9_spell_L31 {x : Cx} (hf : fx x (rm_X9_spell) RX9 cX9_spell wsX9_spell) (hn : xn x = 4) {k0 n0 : Nat} (hk : k0 ≤ (rm_X9_spell).cells ∧ n0 ≤ (rm_X9_spell).slots) (a0 a1 a2 a3 a4 a5 a6 a7 a8 a9 a10 a11 a12 a13 : Nat) (z1 : Int64) (v4 : Int32) (v0 : Int32) (v1 : Int32) (v2 : Int32) (v3 : Int32) (v5 : Int32) {K82 : (Nat → Int32) → (Nat → Int32) → Prop}
    (n : Nat) (z3 : Int32) (v6 : Nat → Int32) (v7 : Nat → Int32) (h : P_X9_spell_L31 z1 v4 K82 n z3 v6 v7)
    (hK82 : ∀ (uv6 : Nat → Int32), ∀ (uv7 : Nat → Int32), K82 uv6 uv7 → ww x (W_X9_spell (xg x) a0 a1 a2 a3 a4 a5 a6 a7 a8 a9 a10 a11 a12 a13 v0 v1 v2 v3 v4 v5 uv6 uv7) [] k0 n0 82 []) :
    ww x (W_X9_spell (xg x) a0 a1 a2 a3 a4 a5 a6 a7 a8 a9 a10 a11 a12 a13 v0 v1 v2 v3 v4 v5 v6 v7) [(0, .ref a0), (1, .long z1), (3, .int z3)] k0 n0 31 [] := by
  induction n generalizing z3 v6 v7 with
  | zero => exact h.elim
  | succ n ih =>
    unfold P_X9_spell_L31 at h
    refine xw_iload_n hf (pc := 31) dX9_spell_31 rfl 2 rfl ?_
    refine xw_aload_n hf (pc := 32) dX9_spell_32 rfl 0 rfl ?_
    refine xw_get hf (pc := 33) dX9_spell_33 (T := TX9) mi_X9_spell_X9 rfl 0 rfl 13 (by decide) rfl mw_X9_spell_0 rfl ?_
    refine xw_icmp_ge hf (pc := 36) dX9_spell_36 (tgt := 82) rfl ⟨fun c => ?_, fun c => ?_⟩
    · have h := h.1 c
      refine xw_L [] rfl ?_
      exact hK82 _ _ h
    · have h := h.2 c
      refine xw_aload_n hf (pc := 39) dX9_spell_39 rfl 0 rfl ?_
      refine xw_get hf (pc := 40) dX9_spell_40 (T := TX9) mi_X9_spell_X9 rfl 0 rfl 12 (by decide) rfl mw_X9_spell_2 rfl ?_
      refine xw_iload_n hf (pc := 43) dX9_spell_43 rfl 2 rfl ?_
      refine xw_lload_n hf (pc := 44) dX9_spell_44 rfl 1 rfl ?_
      refine xw_iconst hf (pc := 45) dX9_spell_45 (v := 5) (by decide) ?_
      refine xw_aload_n hf (pc := 46) dX9_spell_46 rfl 0 rfl ?_
      refine xw_get hf (pc := 47) dX9_spell_47 (T := TX9) mi_X9_spell_X9 rfl 0 rfl 13 (by decide) rfl mw_X9_spell_0 rfl ?_
      refine xw_iconst hf (pc := 50) dX9_spell_50 (v := 1) (by decide) ?_
      refine xw_isub hf (pc := 51) dX9_spell_51 ?_
      refine xw_iload_n hf (pc := 52) dX9_spell_52 rfl 2 rfl ?_
      refine xw_isub hf (pc := 53) dX9_spell_53 ?_
      refine xw_imul hf (pc := 54) dX9_spell_54 ?_
      refine xw_lshr hf (pc := 55) dX9_spell_55 ?_
      refine xw_l2i hf (pc := 56) dX9_spell_56 ?_
      refine xw_bipush hf (pc := 57) dX9_spell_57 (v := 31) (by decide) ?_
      refine xw_iand hf (pc := 59) dX9_spell_59 ?_
      refine xw_iast hf (pc := 60) dX9_spell_60 1 rfl h.1 (W_X9_spell (xg x) a0 a1 a2 a3 a4 a5 a6 a7 a8 a9 a10 a11 a12 a13 v0 v1 v2 v3 v4 v5 (upd v6 z3.toNatClampNeg (((z1 >>> ((5 * ((v4 - 1) - z3)).toInt64 &&& 63)).toInt32) &&& 31)) v7) rfl ?_
      have h := h.2
      refine xw_aload_n hf (pc := 61) dX9_spell_61 rfl 0 rfl ?_
      refine xw_get hf (pc := 62) dX9_spell_62 (T := TX9) mi_X9_spell_X9 rfl 0 rfl 14 (by decide) rfl mw_X9_spell_1 rfl ?_
      refine xw_aload_n hf (pc := 65) dX9_spell_65 rfl 0 rfl ?_
      refine xw_get hf (pc := 66) dX9_spell_66 (T := TX9) mi_X9_spell_X9 rfl 0 rfl 12 (by decide) rfl mw_X9_spell_2 rfl ?_
      refine xw_iload_n hf (pc := 69) dX9_spell_69 rfl 2 rfl ?_
      refine xw_iald hf (pc := 70) dX9_spell_70 1 rfl h.1 ?_
      have h := h.2
      refine xw_dup2 hf (pc := 71) dX9_spell_71 rfl rfl ?_
      refine xw_iald hf (pc := 72) dX9_spell_72 2 rfl h.1 ?_
      have h := h.2
      refine xw_iconst hf (pc := 73) dX9_spell_73 (v := 1) (by decide) ?_
      refine xw_iadd hf (pc := 74) dX9_spell_74 ?_
      refine xw_iast hf (pc := 75) dX9_spell_75 2 rfl h.1 (W_X9_spell (xg x) a0 a1 a2 a3 a4 a5 a6 a7 a8 a9 a10 a11 a12 a13 v0 v1 v2 v3 v4 v5 (upd v6 z3.toNatClampNeg (((z1 >>> ((5 * ((v4 - 1) - z3)).toInt64 &&& 63)).toInt32) &&& 31)) (upd v7 ((upd v6 z3.toNatClampNeg (((z1 >>> ((5 * ((v4 - 1) - z3)).toInt64 &&& 63)).toInt32) &&& 31)) z3.toNatClampNeg).toNatClampNeg ((v7 ((upd v6 z3.toNatClampNeg (((z1 >>> ((5 * ((v4 - 1) - z3)).toInt64 &&& 63)).toInt32) &&& 31)) z3.toNatClampNeg).toNatClampNeg) + 1))) rfl ?_
      have h := h.2
      refine xw_iinc hf (pc := 76) dX9_spell_76 (v := z3 + 1) 2 rfl rfl [(3, .int (z3 + 1)), (0, .ref a0), (1, .long z1)] hn (by decide) rfl ?_
      refine xw_goto hf (pc := 79) dX9_spell_79 (tgt := 31) rfl ?_
      refine xw_L [1, 2, 0] rfl ?_
      exact ih _ _ _ h
set_option maxHeartbeats 4000000 in
set_option maxRecDepth 100000 in
theorem c_X9_spell (l : Launch) (g : Gx) (a0 a1 a2 a3 a4 a5 a6 a7 a8 a9 a10 a11 a12 a13 : Nat) (v0 : Int32) (v1 : Int32) (v2 : Int32) (v3 : Int32) (v4 : Int32) (v5 : Int32) (v6 : Nat → Int32) (v7 : Nat → Int32) (p1 : Int64) {post : Int32 → (Nat → Int32) → (Nat → Int32) → Prop} (h : P_X9_spell post p1 v0 v1 v2 v3 v4 v5 v6 v7) : cm l g yX9_spell wsX9_spell (rm_X9_spell) [.ref a0, .long p1] (W_X9_spell g a0 a1 a2 a3 a4 a5 a6 a7 a8 a9 a10 a11 a12 a13 v0 v1 v2 v3 v4 v5 v6 v7) (fun v X1 => ∃ (uv4 : Int32) (uv6 : Nat → Int32) (uv7 : Nat → Int32), v = none ∧ X1 = W_X9_spell g a0 a1 a2 a3 a4 a5 a6 a7 a8 a9 a10 a11 a12 a13 v0 v1 v2 v3 uv4 v5 uv6 uv7 ∧ post uv4 uv6 uv7) := by
  refine cm_of (cc := cX9_spell) (nL := 4) (ret := none) (by decide +kernel) rfl (Nat.le_of_ble_eq_true rfl) ?_
  intro x hf hl hg hn hi hr
  subst hl
  subst hg
  show ww x (W_X9_spell (xg x) a0 a1 a2 a3 a4 a5 a6 a7 a8 a9 a10 a11 a12 a13 v0 v1 v2 v3 v4 v5 v6 v7) [(0, .ref a0), (1, .long p1)] 0 0 0 []
  unfold P_X9_spell at h
  refine xw_aload_n hf (pc := 0) dX9_spell_0 rfl 0 rfl ?_
  refine xw_lload_n hf (pc := 1) dX9_spell_1 rfl 1 rfl ?_
  refine xw_callS hf (pc := 2) (nA := 1) (Xr := W_X9_spell (xg x) a0 a1 a2 a3 a4 a5 a6 a7 a8 a9 a10 a11 a12 a13 v0 v1 v2 v3 v4 v5 v6 v7) (rest := [.ref a0]) (c_X9_lengthOf (xl x) (xg x) p1 h) gX9_spell_X9_lengthOf (by rfl) rfl (by decide +kernel) ⟨⟨(Nat.le_of_ble_eq_true rfl), (Nat.le_of_ble_eq_true rfl)⟩, (Nat.le_of_ble_eq_true rfl), (Nat.le_of_ble_eq_true rfl)⟩ (Nat.le_of_ble_eq_true rfl) (sb_rf _) rfl dX9_spell_2 (fun v X1 hp => ?_)
  obtain ⟨r1, rfl, rfl, h⟩ := hp
  show ww x (W_X9_spell (xg x) a0 a1 a2 a3 a4 a5 a6 a7 a8 a9 a10 a11 a12 a13 v0 v1 v2 v3 v4 v5 v6 v7) [(0, .ref a0), (1, .long p1)] 0 0 5 [.int r1, .ref a0]
  refine xw_put hf (pc := 5) dX9_spell_5 (T := TX9) mi_X9_spell_X9 rfl tyX9_ok nmX9 0 rfl 13 (by decide) rfl mw_X9_spell_0 rfl rfl rfl rfl (Nat.le_of_ble_eq_true rfl) (W_X9_spell (xg x) a0 a1 a2 a3 a4 a5 a6 a7 a8 a9 a10 a11 a12 a13 v0 v1 v2 v3 r1 v5 v6 v7) rfl ?_
  refine xw_iconst hf (pc := 8) dX9_spell_8 (v := 0) (by decide) ?_
  refine xw_istore_n hf (pc := 9) dX9_spell_9 rfl [(3, .int 0), (0, .ref a0), (1, .long p1)] hn (by decide) rfl ?_
  refine xw_L [1, 2, 0] rfl ?_
  refine w_X9_spell_L10 hf hn ⟨(Nat.le_of_ble_eq_true rfl), (Nat.le_of_ble_eq_true rfl)⟩ a0 a1 a2 a3 a4 a5 a6 a7 a8 a9 a10 a11 a12 a13 p1 v0 v1 v2 v3 r1 v5 v6 FU _ _ h (fun w2 h => ?_)
  refine xw_iconst hf (pc := 29) dX9_spell_29 (v := 0) (by decide) ?_
  refine xw_istore_n hf (pc := 30) dX9_spell_30 rfl [(3, .int 0), (0, .ref a0), (1, .long p1)] hn (by decide) rfl ?_
  refine xw_L [1, 2, 0] rfl ?_
  refine w_X9_spell_L31 hf hn ⟨(Nat.le_of_ble_eq_true rfl), (Nat.le_of_ble_eq_true rfl)⟩ a0 a1 a2 a3 a4 a5 a6 a7 a8 a9 a10 a11 a12 a13 p1 r1 v0 v1 v2 v3 v5 FU _ _ _ h (fun w3 w4 h => ?_)
  exact xw_vret hf (pc := 82) dX9_spell_82 hr (Nat.le_of_ble_eq_true rfl) (Nat.le_of_ble_eq_true rfl) ⟨_, _, _, rfl, rfl, h⟩
abbrev W_X9_countIn (g : Gx) : va_W := []
abbrev rm_X9_countIn : Room := { frames := 0, cells := 0, slots := 0, locals := 0 }
theorem mw_X9_countIn_0 : (Cond.constantLong RX9 63 (31) : Cond) ∈ wsX9_countIn := (List.mem_cons_of_mem _ (List.mem_of_getElem? (i := 0) rfl))
set_option maxHeartbeats 4000000 in
set_option maxRecDepth 100000 in
theorem w_X9_countIn_L5 {x : Cx} (hf : fx x (rm_X9_countIn) RX9 cX9_countIn wsX9_countIn) (hn : xn x = 6) {k0 n0 : Nat} (hk : k0 ≤ (rm_X9_countIn).cells ∧ n0 ≤ (rm_X9_countIn).slots) (z2 : Int32) {K41 : Int32 → Prop}
    (n : Nat) (z3 : Int32) (z4 : Int64) (h : P_X9_countIn_L5 z2 K41 n z3 z4)
    (hK41 : ∀ (y3 : Int32), K41 y3 → ww x (W_X9_countIn (xg x)) [(3, .int y3)] k0 n0 41 []) :
    ww x (W_X9_countIn (xg x)) [(2, .int z2), (3, .int z3), (4, .long z4)] k0 n0 5 [] := by
  induction n generalizing z3 z4 with
  | zero => exact h.elim
  | succ n ih =>
    unfold P_X9_countIn_L5 at h
    refine xw_lload hf (pc := 5) dX9_countIn_5 2 rfl ?_
    refine xw_lconst hf (pc := 7) dX9_countIn_7 (v := 0) (by decide) ?_
    refine xw_lcmp hf (pc := 8) dX9_countIn_8 ?_
    refine xw_if_le hf (pc := 9) dX9_countIn_9 (c := z4 ≤ 0) (lc_le _ _) (tgt := 41) rfl ⟨fun c => ?_, fun c => ?_⟩
    · have h := h.1 c
      refine xw_L [1] rfl ?_
      exact hK41 _ h
    · have h := h.2 c
      refine xw_iload_n hf (pc := 12) dX9_countIn_12 rfl 1 rfl ?_
      refine xw_lload hf (pc := 13) dX9_countIn_13 2 rfl ?_
      refine xw_ldc2 hf (pc := 15) dX9_countIn_15 mw_X9_countIn_0 ?_
      refine xw_land hf (pc := 18) dX9_countIn_18 ?_
      refine xw_iload_n hf (pc := 19) dX9_countIn_19 rfl 0 rfl ?_
      refine xw_i2l hf (pc := 20) dX9_countIn_20 ?_
      refine xw_lcmp hf (pc := 21) dX9_countIn_21 ?_
      refine xw_if_ne hf (pc := 22) dX9_countIn_22 (c := (z4 &&& 31) = z2.toInt64) (lc_eq _ _) (tgt := 29) rfl ⟨fun c => ?_, fun c => ?_⟩
      · have h := h.1 c
        refine xw_iconst hf (pc := 25) dX9_countIn_25 (v := 1) (by decide) ?_
        refine xw_goto hf (pc := 26) dX9_countIn_26 (tgt := 30) rfl ?_
        refine xw_iadd hf (pc := 30) dX9_countIn_30 ?_
        refine xw_topi (fun y1 ey1 => ?_)
        have h := h y1 ey1
        refine xw_istore_n hf (pc := 31) dX9_countIn_31 rfl [(3, .int y1), (2, .int z2), (4, .long z4)] hn (by decide) rfl ?_
        refine xw_lload hf (pc := 32) dX9_countIn_32 2 rfl ?_
        refine xw_iconst hf (pc := 34) dX9_countIn_34 (v := 5) (by decide) ?_
        refine xw_lshr hf (pc := 35) dX9_countIn_35 ?_
        refine xw_topl (fun y2 ey2 => ?_)
        have h := h y2 ey2
        refine xw_lstore hf (pc := 36) dX9_countIn_36 [(4, .long y2), (3, .int y1), (2, .int z2)] hn (by decide) rfl ?_
        refine xw_goto hf (pc := 38) dX9_countIn_38 (tgt := 5) rfl ?_
        refine xw_L [2, 1, 0] rfl ?_
        exact ih _ _ h
      · have h := h.2 c
        refine xw_iconst hf (pc := 29) dX9_countIn_29 (v := 0) (by decide) ?_
        refine xw_iadd hf (pc := 30) dX9_countIn_30 ?_
        refine xw_topi (fun y3 ey3 => ?_)
        have h := h y3 ey3
        refine xw_istore_n hf (pc := 31) dX9_countIn_31 rfl [(3, .int y3), (2, .int z2), (4, .long z4)] hn (by decide) rfl ?_
        refine xw_lload hf (pc := 32) dX9_countIn_32 2 rfl ?_
        refine xw_iconst hf (pc := 34) dX9_countIn_34 (v := 5) (by decide) ?_
        refine xw_lshr hf (pc := 35) dX9_countIn_35 ?_
        refine xw_topl (fun y4 ey4 => ?_)
        have h := h y4 ey4
        refine xw_lstore hf (pc := 36) dX9_countIn_36 [(4, .long y4), (3, .int y3), (2, .int z2)] hn (by decide) rfl ?_
        refine xw_goto hf (pc := 38) dX9_countIn_38 (tgt := 5) rfl ?_
        refine xw_L [2, 1, 0] rfl ?_
        exact ih _ _ h
set_option maxHeartbeats 4000000 in
set_option maxRecDepth 100000 in
theorem c_X9_countIn (l : Launch) (g : Gx) (p0 : Int64) (p2 : Int32) {post : Int32 → Prop} (h : P_X9_countIn post p0 p2 ) : cm l g yX9_countIn wsX9_countIn (rm_X9_countIn) [.long p0, .int p2] (W_X9_countIn g) (fun v X1 => ∃ (r : Int32), v = some (.int r) ∧ X1 = W_X9_countIn g ∧ post r) := by
  refine cm_of (cc := cX9_countIn) (nL := 6) (ret := (some .int)) (by decide +kernel) rfl (Nat.le_of_ble_eq_true rfl) ?_
  intro x hf hl hg hn hi hr
  subst hl
  subst hg
  show ww x (W_X9_countIn (xg x)) [(0, .long p0), (2, .int p2)] 0 0 0 []
  unfold P_X9_countIn at h
  refine xw_iconst hf (pc := 0) dX9_countIn_0 (v := 0) (by decide) ?_
  refine xw_istore_n hf (pc := 1) dX9_countIn_1 rfl [(3, .int 0), (0, .long p0), (2, .int p2)] hn (by decide) rfl ?_
  refine xw_lload_n hf (pc := 2) dX9_countIn_2 rfl 1 rfl ?_
  refine xw_lstore hf (pc := 3) dX9_countIn_3 [(4, .long p0), (3, .int 0), (0, .long p0), (2, .int p2)] hn (by decide) rfl ?_
  refine xw_L [3, 1, 0] rfl ?_
  refine w_X9_countIn_L5 hf hn ⟨(Nat.le_of_ble_eq_true rfl), (Nat.le_of_ble_eq_true rfl)⟩ p2 FU _ _ h (fun x5 h => ?_)
  refine xw_iload_n hf (pc := 41) dX9_countIn_41 rfl 0 rfl ?_
  exact xw_iret hf (pc := 42) dX9_countIn_42 hr (Nat.le_of_ble_eq_true rfl) (Nat.le_of_ble_eq_true rfl) ⟨_, rfl, rfl, h⟩
abbrev W_X9_fits (g : Gx) (a0 a1 a2 a3 a4 a5 a6 a7 a8 a9 a10 a11 a12 a13 : Nat) (v0 : Int32) (v1 : Int32) (v2 : Int32) (v3 : Int32) (v4 : Int32) (v5 : Int32) (v6 : Nat → Int32) : va_W := [(a0, .inr (9, [.int v0, .ref a2, .int v1, .ref a3, .ref a4, .ref a5, .ref a6, .ref a7, .ref a8, .ref a9, .int v2, .int v3, .ref a10, .int v4, .ref a1, .ref a11, .ref a12, .ref a13, .int v5])), (a1, .inl (gI g, 27, .inl v6))]
abbrev rm_X9_fits : Room := { frames := 1, cells := 0, slots := 0, locals := 25 }
theorem mw_X9_fits_0 : (Cond.constantLong RX9 63 (31) : Cond) ∈ wsX9_fits := (List.mem_cons_of_mem _ (List.mem_append_left _ (List.mem_of_getElem? (i := 0) rfl)))
theorem mw_X9_fits_1 : (Cond.fieldLink RX9 39 "AnagramButcherModel" "counts" "[I" : Cond) ∈ wsX9_fits := (List.mem_cons_of_mem _ (List.mem_append_left _ (List.mem_of_getElem? (i := 1) rfl)))
theorem mi_X9_fits_X9 : ∀ w ∈ wsX90, w ∈ wsX9_fits := fun _ h => (List.mem_cons_of_mem _ (List.mem_append_right _ h))
set_option maxHeartbeats 4000000 in
set_option maxRecDepth 100000 in
theorem w_X9_fits_L5 {x : Cx} (hf : fx x (rm_X9_fits) RX9 cX9_fits wsX9_fits) (hn : xn x = 7) {k0 n0 : Nat} (hk : k0 ≤ (rm_X9_fits).cells ∧ n0 ≤ (rm_X9_fits).slots) (a0 a1 a2 a3 a4 a5 a6 a7 a8 a9 a10 a11 a12 a13 : Nat) (z1 : Int64) (v6 : Nat → Int32) (v0 : Int32) (v1 : Int32) (v2 : Int32) (v3 : Int32) (v4 : Int32) (v5 : Int32) {K56 : Int32 → Prop}
    (n : Nat) (z3 : Int32) (z4 : Int64) (h : P_X9_fits_L5 z1 v6 K56 n z3 z4)
    (hK56 : ∀ (y3 : Int32), K56 y3 → ww x (W_X9_fits (xg x) a0 a1 a2 a3 a4 a5 a6 a7 a8 a9 a10 a11 a12 a13 v0 v1 v2 v3 v4 v5 v6) [(3, .int y3)] k0 n0 56 []) :
    ww x (W_X9_fits (xg x) a0 a1 a2 a3 a4 a5 a6 a7 a8 a9 a10 a11 a12 a13 v0 v1 v2 v3 v4 v5 v6) [(0, .ref a0), (1, .long z1), (3, .int z3), (4, .long z4)] k0 n0 5 [] := by
  induction n generalizing z3 z4 with
  | zero => exact h.elim
  | succ n ih =>
    unfold P_X9_fits_L5 at h
    refine xw_lload hf (pc := 5) dX9_fits_5 3 rfl ?_
    refine xw_lconst hf (pc := 7) dX9_fits_7 (v := 0) (by decide) ?_
    refine xw_lcmp hf (pc := 8) dX9_fits_8 ?_
    refine xw_if_le hf (pc := 9) dX9_fits_9 (c := z4 ≤ 0) (lc_le _ _) (tgt := 56) rfl ⟨fun c => ?_, fun c => ?_⟩
    · have h := h.1 c
      refine xw_L [2] rfl ?_
      exact hK56 _ h
    · have h := h.2 c
      refine xw_lload hf (pc := 12) dX9_fits_12 3 rfl ?_
      refine xw_ldc2 hf (pc := 14) dX9_fits_14 mw_X9_fits_0 ?_
      refine xw_land hf (pc := 17) dX9_fits_17 ?_
      refine xw_l2i hf (pc := 18) dX9_fits_18 ?_
      refine xw_topi (fun y1 ey1 => ?_)
      have h := h y1 ey1
      refine xw_istore hf (pc := 19) dX9_fits_19 [(6, .int y1), (0, .ref a0), (1, .long z1), (3, .int z3), (4, .long z4)] hn (by decide) rfl ?_
      refine xw_iload_n hf (pc := 21) dX9_fits_21 rfl 3 rfl ?_
      refine xw_if_eq hf (pc := 22) dX9_fits_22 (c := z3 = 0) Iff.rfl (tgt := 45) rfl ⟨fun c => ?_, fun c => ?_⟩
      · have h := h.1 c
        refine xw_iconst hf (pc := 45) dX9_fits_45 (v := 0) (by decide) ?_
        refine xw_istore_n hf (pc := 46) dX9_fits_46 rfl [(3, .int 0), (6, .int y1), (0, .ref a0), (1, .long z1), (4, .long z4)] hn (by decide) rfl ?_
        refine xw_lload hf (pc := 47) dX9_fits_47 4 rfl ?_
        refine xw_iconst hf (pc := 49) dX9_fits_49 (v := 5) (by decide) ?_
        refine xw_lshr hf (pc := 50) dX9_fits_50 ?_
        refine xw_topl (fun y2 ey2 => ?_)
        have h := h y2 ey2
        refine xw_lstore hf (pc := 51) dX9_fits_51 [(4, .long y2), (3, .int 0), (6, .int y1), (0, .ref a0), (1, .long z1)] hn (by decide) rfl ?_
        refine xw_goto hf (pc := 53) dX9_fits_53 (tgt := 5) rfl ?_
        refine xw_L [3, 4, 1, 0] rfl ?_
        exact ih _ _ h
      · have h := h.2 c
        refine xw_lload_n hf (pc := 25) dX9_fits_25 rfl 2 rfl ?_
        refine xw_iload hf (pc := 26) dX9_fits_26 0 rfl ?_
        refine xw_callS hf (pc := 28) (nA := 2) (Xr := W_X9_fits (xg x) a0 a1 a2 a3 a4 a5 a6 a7 a8 a9 a10 a11 a12 a13 v0 v1 v2 v3 v4 v5 v6) (rest := []) (c_X9_countIn (xl x) (xg x) z1 y1 h) gX9_fits_X9_countIn (by rfl) rfl (by decide +kernel) ⟨⟨(Nat.le_of_ble_eq_true rfl), (Nat.le_of_ble_eq_true rfl)⟩, hk.1, hk.2⟩ (Nat.le_of_ble_eq_true rfl) (sb_rf _) rfl dX9_fits_28 (fun v X1 hp => ?_)
        obtain ⟨r3, rfl, rfl, h⟩ := hp
        show ww x (W_X9_fits (xg x) a0 a1 a2 a3 a4 a5 a6 a7 a8 a9 a10 a11 a12 a13 v0 v1 v2 v3 v4 v5 v6) [(6, .int y1), (0, .ref a0), (1, .long z1), (3, .int z3), (4, .long z4)] k0 n0 31 [.int r3]
        refine xw_aload_n hf (pc := 31) dX9_fits_31 rfl 1 rfl ?_
        refine xw_get hf (pc := 32) dX9_fits_32 (T := TX9) mi_X9_fits_X9 rfl 0 rfl 14 (by decide) rfl mw_X9_fits_1 rfl ?_
        refine xw_iload hf (pc := 35) dX9_fits_35 0 rfl ?_
        refine xw_iald hf (pc := 37) dX9_fits_37 1 rfl h.1 ?_
        have h := h.2
        refine xw_icmp_gt hf (pc := 38) dX9_fits_38 (tgt := 45) rfl ⟨fun c => ?_, fun c => ?_⟩
        · have h := h.1 c
          refine xw_iconst hf (pc := 45) dX9_fits_45 (v := 0) (by decide) ?_
          refine xw_istore_n hf (pc := 46) dX9_fits_46 rfl [(3, .int 0), (6, .int y1), (0, .ref a0), (1, .long z1), (4, .long z4)] hn (by decide) rfl ?_
          refine xw_lload hf (pc := 47) dX9_fits_47 4 rfl ?_
          refine xw_iconst hf (pc := 49) dX9_fits_49 (v := 5) (by decide) ?_
          refine xw_lshr hf (pc := 50) dX9_fits_50 ?_
          refine xw_topl (fun y4 ey4 => ?_)
          have h := h y4 ey4
          refine xw_lstore hf (pc := 51) dX9_fits_51 [(4, .long y4), (3, .int 0), (6, .int y1), (0, .ref a0), (1, .long z1)] hn (by decide) rfl ?_
          refine xw_goto hf (pc := 53) dX9_fits_53 (tgt := 5) rfl ?_
          refine xw_L [3, 4, 1, 0] rfl ?_
          exact ih _ _ h
        · have h := h.2 c
          refine xw_iconst hf (pc := 41) dX9_fits_41 (v := 1) (by decide) ?_
          refine xw_goto hf (pc := 42) dX9_fits_42 (tgt := 46) rfl ?_
          refine xw_istore_n hf (pc := 46) dX9_fits_46 rfl [(3, .int 1), (6, .int y1), (0, .ref a0), (1, .long z1), (4, .long z4)] hn (by decide) rfl ?_
          refine xw_lload hf (pc := 47) dX9_fits_47 4 rfl ?_
          refine xw_iconst hf (pc := 49) dX9_fits_49 (v := 5) (by decide) ?_
          refine xw_lshr hf (pc := 50) dX9_fits_50 ?_
          refine xw_topl (fun y5 ey5 => ?_)
          have h := h y5 ey5
          refine xw_lstore hf (pc := 51) dX9_fits_51 [(4, .long y5), (3, .int 1), (6, .int y1), (0, .ref a0), (1, .long z1)] hn (by decide) rfl ?_
          refine xw_goto hf (pc := 53) dX9_fits_53 (tgt := 5) rfl ?_
          refine xw_L [3, 4, 1, 0] rfl ?_
          exact ih _ _ h
set_option maxHeartbeats 4000000 in
set_option maxRecDepth 100000 in
theorem c_X9_fits (l : Launch) (g : Gx) (a0 a1 a2 a3 a4 a5 a6 a7 a8 a9 a10 a11 a12 a13 : Nat) (v0 : Int32) (v1 : Int32) (v2 : Int32) (v3 : Int32) (v4 : Int32) (v5 : Int32) (v6 : Nat → Int32) (p1 : Int64) {post : Int32 → Prop} (h : P_X9_fits post p1 v0 v1 v2 v3 v4 v5 v6) : cm l g yX9_fits wsX9_fits (rm_X9_fits) [.ref a0, .long p1] (W_X9_fits g a0 a1 a2 a3 a4 a5 a6 a7 a8 a9 a10 a11 a12 a13 v0 v1 v2 v3 v4 v5 v6) (fun v X1 => ∃ (r : Int32), v = some (.int r) ∧ X1 = W_X9_fits g a0 a1 a2 a3 a4 a5 a6 a7 a8 a9 a10 a11 a12 a13 v0 v1 v2 v3 v4 v5 v6 ∧ post r) := by
  refine cm_of (cc := cX9_fits) (nL := 7) (ret := (some .boolean)) (by decide +kernel) rfl (Nat.le_of_ble_eq_true rfl) ?_
  intro x hf hl hg hn hi hr
  subst hl
  subst hg
  show ww x (W_X9_fits (xg x) a0 a1 a2 a3 a4 a5 a6 a7 a8 a9 a10 a11 a12 a13 v0 v1 v2 v3 v4 v5 v6) [(0, .ref a0), (1, .long p1)] 0 0 0 []
  unfold P_X9_fits at h
  refine xw_iconst hf (pc := 0) dX9_fits_0 (v := 1) (by decide) ?_
  refine xw_istore_n hf (pc := 1) dX9_fits_1 rfl [(3, .int 1), (0, .ref a0), (1, .long p1)] hn (by decide) rfl ?_
  refine xw_lload_n hf (pc := 2) dX9_fits_2 rfl 2 rfl ?_
  refine xw_lstore hf (pc := 3) dX9_fits_3 [(4, .long p1), (3, .int 1), (0, .ref a0), (1, .long p1)] hn (by decide) rfl ?_
  refine xw_L [2, 3, 1, 0] rfl ?_
  refine w_X9_fits_L5 hf hn ⟨(Nat.le_of_ble_eq_true rfl), (Nat.le_of_ble_eq_true rfl)⟩ a0 a1 a2 a3 a4 a5 a6 a7 a8 a9 a10 a11 a12 a13 p1 v6 v0 v1 v2 v3 v4 v5 FU _ _ h (fun x6 h => ?_)
  refine xw_iload_n hf (pc := 56) dX9_fits_56 rfl 0 rfl ?_
  exact xw_zret hf (pc := 57) dX9_fits_57 hr (Nat.le_of_ble_eq_true rfl) (Nat.le_of_ble_eq_true rfl) h.1 ⟨_, rfl, rfl, h.2⟩
abbrev W_X9_isVowel (g : Gx) : va_W := []
abbrev rm_X9_isVowel : Room := { frames := 0, cells := 0, slots := 0, locals := 0 }
set_option maxHeartbeats 4000000 in
set_option maxRecDepth 100000 in
theorem c_X9_isVowel (l : Launch) (g : Gx) (p0 : Int32) {post : Int32 → Prop} (h : P_X9_isVowel post p0 ) : cm l g yX9_isVowel wsX9_isVowel (rm_X9_isVowel) [.int p0] (W_X9_isVowel g) (fun v X1 => ∃ (r : Int32), v = some (.int r) ∧ X1 = W_X9_isVowel g ∧ post r) := by
  refine cm_of (cc := cX9_isVowel) (nL := 1) (ret := (some .boolean)) (by decide +kernel) rfl (Nat.le_of_ble_eq_true rfl) ?_
  intro x hf hl hg hn hi hr
  subst hl
  subst hg
  show ww x (W_X9_isVowel (xg x)) [(0, .int p0)] 0 0 0 []
  unfold P_X9_isVowel at h
  refine xw_iload_n hf (pc := 0) dX9_isVowel_0 rfl 0 rfl ?_
  refine xw_iconst hf (pc := 1) dX9_isVowel_1 (v := 1) (by decide) ?_
  refine xw_icmp_eq hf (pc := 2) dX9_isVowel_2 (tgt := 28) rfl ⟨fun c => ?_, fun c => ?_⟩
  · have h := h.1 c
    refine xw_iconst hf (pc := 28) dX9_isVowel_28 (v := 1) (by decide) ?_
    refine xw_goto hf (pc := 29) dX9_isVowel_29 (tgt := 33) rfl ?_
    exact xw_zret hf (pc := 33) dX9_isVowel_33 hr (Nat.le_of_ble_eq_true rfl) (Nat.le_of_ble_eq_true rfl) rfl ⟨_, rfl, rfl, h⟩
  · have h := h.2 c
    refine xw_iload_n hf (pc := 5) dX9_isVowel_5 rfl 0 rfl ?_
    refine xw_iconst hf (pc := 6) dX9_isVowel_6 (v := 5) (by decide) ?_
    refine xw_icmp_eq hf (pc := 7) dX9_isVowel_7 (tgt := 28) rfl ⟨fun c => ?_, fun c => ?_⟩
    · have h := h.1 c
      refine xw_iconst hf (pc := 28) dX9_isVowel_28 (v := 1) (by decide) ?_
      refine xw_goto hf (pc := 29) dX9_isVowel_29 (tgt := 33) rfl ?_
      exact xw_zret hf (pc := 33) dX9_isVowel_33 hr (Nat.le_of_ble_eq_true rfl) (Nat.le_of_ble_eq_true rfl) rfl ⟨_, rfl, rfl, h⟩
    · have h := h.2 c
      refine xw_iload_n hf (pc := 10) dX9_isVowel_10 rfl 0 rfl ?_
      refine xw_bipush hf (pc := 11) dX9_isVowel_11 (v := 9) (by decide) ?_
      refine xw_icmp_eq hf (pc := 13) dX9_isVowel_13 (tgt := 28) rfl ⟨fun c => ?_, fun c => ?_⟩
      · have h := h.1 c
        refine xw_iconst hf (pc := 28) dX9_isVowel_28 (v := 1) (by decide) ?_
        refine xw_goto hf (pc := 29) dX9_isVowel_29 (tgt := 33) rfl ?_
        exact xw_zret hf (pc := 33) dX9_isVowel_33 hr (Nat.le_of_ble_eq_true rfl) (Nat.le_of_ble_eq_true rfl) rfl ⟨_, rfl, rfl, h⟩
      · have h := h.2 c
        refine xw_iload_n hf (pc := 16) dX9_isVowel_16 rfl 0 rfl ?_
        refine xw_bipush hf (pc := 17) dX9_isVowel_17 (v := 15) (by decide) ?_
        refine xw_icmp_eq hf (pc := 19) dX9_isVowel_19 (tgt := 28) rfl ⟨fun c => ?_, fun c => ?_⟩
        · have h := h.1 c
          refine xw_iconst hf (pc := 28) dX9_isVowel_28 (v := 1) (by decide) ?_
          refine xw_goto hf (pc := 29) dX9_isVowel_29 (tgt := 33) rfl ?_
          exact xw_zret hf (pc := 33) dX9_isVowel_33 hr (Nat.le_of_ble_eq_true rfl) (Nat.le_of_ble_eq_true rfl) rfl ⟨_, rfl, rfl, h⟩
        · have h := h.2 c
          refine xw_iload_n hf (pc := 22) dX9_isVowel_22 rfl 0 rfl ?_
          refine xw_bipush hf (pc := 23) dX9_isVowel_23 (v := 21) (by decide) ?_
          refine xw_icmp_ne hf (pc := 25) dX9_isVowel_25 (tgt := 32) rfl ⟨fun c => ?_, fun c => ?_⟩
          · have h := h.1 c
            refine xw_iconst hf (pc := 28) dX9_isVowel_28 (v := 1) (by decide) ?_
            refine xw_goto hf (pc := 29) dX9_isVowel_29 (tgt := 33) rfl ?_
            exact xw_zret hf (pc := 33) dX9_isVowel_33 hr (Nat.le_of_ble_eq_true rfl) (Nat.le_of_ble_eq_true rfl) rfl ⟨_, rfl, rfl, h⟩
          · have h := h.2 c
            refine xw_iconst hf (pc := 32) dX9_isVowel_32 (v := 0) (by decide) ?_
            exact xw_zret hf (pc := 33) dX9_isVowel_33 hr (Nat.le_of_ble_eq_true rfl) (Nat.le_of_ble_eq_true rfl) rfl ⟨_, rfl, rfl, h⟩
abbrev W_X9_weight (g : Gx) : va_W := []
abbrev rm_X9_weight : Room := { frames := 1, cells := 0, slots := 0, locals := 20 }
set_option maxHeartbeats 4000000 in
set_option maxRecDepth 100000 in
theorem c_X9_weight (l : Launch) (g : Gx) (p0 : Int32) {post : Int32 → Prop} (h : P_X9_weight post p0 ) : cm l g yX9_weight wsX9_weight (rm_X9_weight) [.int p0] (W_X9_weight g) (fun v X1 => ∃ (r : Int32), v = some (.int r) ∧ X1 = W_X9_weight g ∧ post r) := by
  refine cm_of (cc := cX9_weight) (nL := 1) (ret := (some .int)) (by decide +kernel) rfl (Nat.le_of_ble_eq_true rfl) ?_
  intro x hf hl hg hn hi hr
  subst hl
  subst hg
  show ww x (W_X9_weight (xg x)) [(0, .int p0)] 0 0 0 []
  unfold P_X9_weight at h
  refine xw_iload_n hf (pc := 0) dX9_weight_0 rfl 0 rfl ?_
  refine xw_callS hf (pc := 1) (nA := 1) (Xr := W_X9_weight (xg x)) (rest := []) (c_X9_isVowel (xl x) (xg x) p0 h) gX9_weight_X9_isVowel (by rfl) rfl (by decide +kernel) ⟨⟨(Nat.le_of_ble_eq_true rfl), (Nat.le_of_ble_eq_true rfl)⟩, (Nat.le_of_ble_eq_true rfl), (Nat.le_of_ble_eq_true rfl)⟩ (Nat.le_of_ble_eq_true rfl) (sb_rf _) rfl dX9_weight_1 (fun v X1 hp => ?_)
  obtain ⟨r1, rfl, rfl, h⟩ := hp
  show ww x (W_X9_weight (xg x)) [(0, .int p0)] 0 0 4 [.int r1]
  refine xw_if_eq hf (pc := 4) dX9_weight_4 (c := r1 = 0) Iff.rfl (tgt := 11) rfl ⟨fun c => ?_, fun c => ?_⟩
  · have h := h.1 c
    refine xw_iload_n hf (pc := 11) dX9_weight_11 rfl 0 rfl ?_
    refine xw_bipush hf (pc := 12) dX9_weight_12 (v := 13) (by decide) ?_
    refine xw_icmp_eq hf (pc := 14) dX9_weight_14 (tgt := 23) rfl ⟨fun c => ?_, fun c => ?_⟩
    · have h := h.1 c
      refine xw_iconst hf (pc := 23) dX9_weight_23 (v := 5) (by decide) ?_
      refine xw_goto hf (pc := 24) dX9_weight_24 (tgt := 28) rfl ?_
      exact xw_iret hf (pc := 28) dX9_weight_28 hr (Nat.le_of_ble_eq_true rfl) (Nat.le_of_ble_eq_true rfl) ⟨_, rfl, rfl, h⟩
    · have h := h.2 c
      refine xw_iload_n hf (pc := 17) dX9_weight_17 rfl 0 rfl ?_
      refine xw_bipush hf (pc := 18) dX9_weight_18 (v := 23) (by decide) ?_
      refine xw_icmp_ne hf (pc := 20) dX9_weight_20 (tgt := 27) rfl ⟨fun c => ?_, fun c => ?_⟩
      · have h := h.1 c
        refine xw_iconst hf (pc := 23) dX9_weight_23 (v := 5) (by decide) ?_
        refine xw_goto hf (pc := 24) dX9_weight_24 (tgt := 28) rfl ?_
        exact xw_iret hf (pc := 28) dX9_weight_28 hr (Nat.le_of_ble_eq_true rfl) (Nat.le_of_ble_eq_true rfl) ⟨_, rfl, rfl, h⟩
      · have h := h.2 c
        refine xw_iconst hf (pc := 27) dX9_weight_27 (v := 3) (by decide) ?_
        exact xw_iret hf (pc := 28) dX9_weight_28 hr (Nat.le_of_ble_eq_true rfl) (Nat.le_of_ble_eq_true rfl) ⟨_, rfl, rfl, h⟩
  · have h := h.2 c
    refine xw_iconst hf (pc := 7) dX9_weight_7 (v := 2) (by decide) ?_
    refine xw_goto hf (pc := 8) dX9_weight_8 (tgt := 28) rfl ?_
    exact xw_iret hf (pc := 28) dX9_weight_28 hr (Nat.le_of_ble_eq_true rfl) (Nat.le_of_ble_eq_true rfl) ⟨_, rfl, rfl, h⟩
abbrev W_X9_placeOf (g : Gx) (a0 a1 a2 a3 a4 a5 a6 a7 a8 a9 a10 a11 a12 a13 : Nat) (v0 : Int32) (v1 : Int32) (v2 : Int32) (v3 : Int32) (v4 : Int32) (v5 : Int32) (v6 : Nat → Int64) : va_W := [(a0, .inr (9, [.int v0, .ref a1, .int v1, .ref a2, .ref a3, .ref a4, .ref a5, .ref a6, .ref a7, .ref a8, .int v2, .int v3, .ref a9, .int v4, .ref a10, .ref a11, .ref a12, .ref a13, .int v5])), (a1, .inl (gJ g, 60, .inr (.inl v6)))]
abbrev rm_X9_placeOf : Room := { frames := 0, cells := 0, slots := 0, locals := 0 }
theorem mw_X9_placeOf_0 : (Cond.fieldLink RX9 76 "AnagramButcherModel" "wordCount" "I" : Cond) ∈ wsX9_placeOf := (List.mem_cons_of_mem _ (List.mem_append_left _ (List.mem_of_getElem? (i := 0) rfl)))
theorem mw_X9_placeOf_1 : (Cond.fieldLink RX9 7 "AnagramButcherModel" "words" "[J" : Cond) ∈ wsX9_placeOf := (List.mem_cons_of_mem _ (List.mem_append_left _ (List.mem_of_getElem? (i := 1) rfl)))
theorem mi_X9_placeOf_X9 : ∀ w ∈ wsX90, w ∈ wsX9_placeOf := fun _ h => (List.mem_cons_of_mem _ (List.mem_append_right _ h))
set_option maxHeartbeats 4000000 in
set_option maxRecDepth 100000 in
theorem w_X9_placeOf_L2 {x : Cx} (hf : fx x (rm_X9_placeOf) RX9 cX9_placeOf wsX9_placeOf) (hn : xn x = 4) {k0 n0 : Nat} (hk : k0 ≤ (rm_X9_placeOf).cells ∧ n0 ≤ (rm_X9_placeOf).slots) (a0 a1 a2 a3 a4 a5 a6 a7 a8 a9 a10 a11 a12 a13 : Nat) (z1 : Int64) (v1 : Int32) (v6 : Nat → Int64) (v0 : Int32) (v2 : Int32) (v3 : Int32) (v4 : Int32) (v5 : Int32) {K21 : Int32 → Prop} {K29 : Prop}
    (n : Nat) (z3 : Int32) (h : P_X9_placeOf_L2 z1 v1 v6 K21 K29 n z3)
    (hK21 : ∀ (y3 : Int32), K21 y3 → ww x (W_X9_placeOf (xg x) a0 a1 a2 a3 a4 a5 a6 a7 a8 a9 a10 a11 a12 a13 v0 v1 v2 v3 v4 v5 v6) [(3, .int y3)] k0 n0 21 [])
    (hK29 : K29 → ww x (W_X9_placeOf (xg x) a0 a1 a2 a3 a4 a5 a6 a7 a8 a9 a10 a11 a12 a13 v0 v1 v2 v3 v4 v5 v6) [] k0 n0 29 []) :
    ww x (W_X9_placeOf (xg x) a0 a1 a2 a3 a4 a5 a6 a7 a8 a9 a10 a11 a12 a13 v0 v1 v2 v3 v4 v5 v6) [(0, .ref a0), (1, .long z1), (3, .int z3)] k0 n0 2 [] := by
  induction n generalizing z3 with
  | zero => exact h.elim
  | succ n ih =>
    unfold P_X9_placeOf_L2 at h
    refine xw_iload_n hf (pc := 2) dX9_placeOf_2 rfl 2 rfl ?_
    refine xw_aload_n hf (pc := 3) dX9_placeOf_3 rfl 0 rfl ?_
    refine xw_get hf (pc := 4) dX9_placeOf_4 (T := TX9) mi_X9_placeOf_X9 rfl 0 rfl 2 (by decide) rfl mw_X9_placeOf_0 rfl ?_
    refine xw_icmp_ge hf (pc := 7) dX9_placeOf_7 (tgt := 29) rfl ⟨fun c => ?_, fun c => ?_⟩
    · have h := h.1 c
      refine xw_L [] rfl ?_
      exact hK29 h
    · have h := h.2 c
      refine xw_aload_n hf (pc := 10) dX9_placeOf_10 rfl 0 rfl ?_
      refine xw_get hf (pc := 11) dX9_placeOf_11 (T := TX9) mi_X9_placeOf_X9 rfl 0 rfl 1 (by decide) rfl mw_X9_placeOf_1 rfl ?_
      refine xw_iload_n hf (pc := 14) dX9_placeOf_14 rfl 2 rfl ?_
      refine xw_lald hf (pc := 15) dX9_placeOf_15 1 rfl h.1 ?_
      have h := h.2
      refine xw_lload_n hf (pc := 16) dX9_placeOf_16 rfl 1 rfl ?_
      refine xw_lcmp hf (pc := 17) dX9_placeOf_17 ?_
      refine xw_if_ne hf (pc := 18) dX9_placeOf_18 (c := (v6 z3.toNatClampNeg) = z1) (lc_eq _ _) (tgt := 23) rfl ⟨fun c => ?_, fun c => ?_⟩
      · have h := h.1 c
        refine xw_L [2] rfl ?_
        exact hK21 _ h
      · have h := h.2 c
        refine xw_iinc hf (pc := 23) dX9_placeOf_23 (v := z3 + 1) 2 rfl rfl [(3, .int (z3 + 1)), (0, .ref a0), (1, .long z1)] hn (by decide) rfl ?_
        refine xw_goto hf (pc := 26) dX9_placeOf_26 (tgt := 2) rfl ?_
        refine xw_L [1, 2, 0] rfl ?_
        exact ih _ h
set_option maxHeartbeats 4000000 in
set_option maxRecDepth 100000 in
theorem c_X9_placeOf (l : Launch) (g : Gx) (a0 a1 a2 a3 a4 a5 a6 a7 a8 a9 a10 a11 a12 a13 : Nat) (v0 : Int32) (v1 : Int32) (v2 : Int32) (v3 : Int32) (v4 : Int32) (v5 : Int32) (v6 : Nat → Int64) (p1 : Int64) {post : Int32 → Prop} (h : P_X9_placeOf post p1 v0 v1 v2 v3 v4 v5 v6) : cm l g yX9_placeOf wsX9_placeOf (rm_X9_placeOf) [.ref a0, .long p1] (W_X9_placeOf g a0 a1 a2 a3 a4 a5 a6 a7 a8 a9 a10 a11 a12 a13 v0 v1 v2 v3 v4 v5 v6) (fun v X1 => ∃ (r : Int32), v = some (.int r) ∧ X1 = W_X9_placeOf g a0 a1 a2 a3 a4 a5 a6 a7 a8 a9 a10 a11 a12 a13 v0 v1 v2 v3 v4 v5 v6 ∧ post r) := by
  refine cm_of (cc := cX9_placeOf) (nL := 4) (ret := (some .int)) (by decide +kernel) rfl (Nat.le_of_ble_eq_true rfl) ?_
  intro x hf hl hg hn hi hr
  subst hl
  subst hg
  show ww x (W_X9_placeOf (xg x) a0 a1 a2 a3 a4 a5 a6 a7 a8 a9 a10 a11 a12 a13 v0 v1 v2 v3 v4 v5 v6) [(0, .ref a0), (1, .long p1)] 0 0 0 []
  unfold P_X9_placeOf at h
  refine xw_iconst hf (pc := 0) dX9_placeOf_0 (v := 0) (by decide) ?_
  refine xw_istore_n hf (pc := 1) dX9_placeOf_1 rfl [(3, .int 0), (0, .ref a0), (1, .long p1)] hn (by decide) rfl ?_
  refine xw_L [1, 2, 0] rfl ?_
  refine w_X9_placeOf_L2 hf hn ⟨(Nat.le_of_ble_eq_true rfl), (Nat.le_of_ble_eq_true rfl)⟩ a0 a1 a2 a3 a4 a5 a6 a7 a8 a9 a10 a11 a12 a13 p1 v1 v6 v0 v2 v3 v4 v5 FU _ h (fun x1 h => ?_) (fun h => ?_)
  · refine xw_iload_n hf (pc := 21) dX9_placeOf_21 rfl 0 rfl ?_
    exact xw_iret hf (pc := 22) dX9_placeOf_22 hr (Nat.le_of_ble_eq_true rfl) (Nat.le_of_ble_eq_true rfl) ⟨_, rfl, rfl, h⟩
  · refine xw_iconst hf (pc := 29) dX9_placeOf_29 (v := (-1)) (by decide) ?_
    exact xw_iret hf (pc := 30) dX9_placeOf_30 hr (Nat.le_of_ble_eq_true rfl) (Nat.le_of_ble_eq_true rfl) ⟨_, rfl, rfl, h⟩
abbrev W_X9_addWord (g : Gx) (a0 a1 a2 a3 a4 a5 a6 a7 a8 a9 a10 a11 a12 a13 : Nat) (v0 : Int32) (v1 : Int32) (v2 : Int32) (v3 : Int32) (v4 : Int32) (v5 : Int32) (v6 : Nat → Int64) : va_W := [(a0, .inr (9, [.int v0, .ref a1, .int v1, .ref a2, .ref a3, .ref a4, .ref a5, .ref a6, .ref a7, .ref a8, .int v2, .int v3, .ref a9, .int v4, .ref a10, .ref a11, .ref a12, .ref a13, .int v5])), (a1, .inl (gJ g, 60, .inr (.inl v6)))]
abbrev rm_X9_addWord : Room := { frames := 2, cells := 0, slots := 0, locals := 48 }
theorem mw_X9_addWord_0 : (Cond.fieldLink RX9 76 "AnagramButcherModel" "wordCount" "I" : Cond) ∈ wsX9_addWord := (List.mem_cons_of_mem _ (List.mem_append_left _ (List.mem_append_left _ (List.mem_of_getElem? (l := wsX9_addWord_r1) (i := 0) rfl))))
theorem mw_X9_addWord_1 : (Cond.fieldLink RX9 7 "AnagramButcherModel" "words" "[J" : Cond) ∈ wsX9_addWord := (List.mem_cons_of_mem _ (List.mem_append_left _ (List.mem_append_left _ (List.mem_of_getElem? (l := wsX9_addWord_r1) (i := 1) rfl))))
theorem mi_X9_addWord_X9 : ∀ w ∈ wsX90, w ∈ wsX9_addWord := fun _ h => (List.mem_cons_of_mem _ (List.mem_append_right _ h))
set_option maxHeartbeats 4000000 in
set_option maxRecDepth 100000 in
theorem c_X9_addWord (l : Launch) (g : Gx) (a0 a1 a2 a3 a4 a5 a6 a7 a8 a9 a10 a11 a12 a13 : Nat) (v0 : Int32) (v1 : Int32) (v2 : Int32) (v3 : Int32) (v4 : Int32) (v5 : Int32) (v6 : Nat → Int64) (p1 : Int64) {post : Int32 → Int32 → Int32 → (Nat → Int64) → Prop} (h : P_X9_addWord post p1 v0 v1 v2 v3 v4 v5 v6) : cm l g yX9_addWord wsX9_addWord (rm_X9_addWord) [.ref a0, .long p1] (W_X9_addWord g a0 a1 a2 a3 a4 a5 a6 a7 a8 a9 a10 a11 a12 a13 v0 v1 v2 v3 v4 v5 v6) (fun v X1 => ∃ (r : Int32) (uv0 : Int32) (uv1 : Int32) (uv6 : Nat → Int64), v = some (.int r) ∧ X1 = W_X9_addWord g a0 a1 a2 a3 a4 a5 a6 a7 a8 a9 a10 a11 a12 a13 uv0 uv1 v2 v3 v4 v5 uv6 ∧ post r uv0 uv1 uv6) := by
  refine cm_of (cc := cX9_addWord) (nL := 3) (ret := (some .int)) (by decide +kernel) rfl (Nat.le_of_ble_eq_true rfl) ?_
  intro x hf hl hg hn hi hr
  subst hl
  subst hg
  show ww x (W_X9_addWord (xg x) a0 a1 a2 a3 a4 a5 a6 a7 a8 a9 a10 a11 a12 a13 v0 v1 v2 v3 v4 v5 v6) [(0, .ref a0), (1, .long p1)] 0 0 0 []
  unfold P_X9_addWord at h
  refine xw_aload_n hf (pc := 0) dX9_addWord_0 rfl 0 rfl ?_
  refine xw_lload_n hf (pc := 1) dX9_addWord_1 rfl 1 rfl ?_
  refine xw_callS hf (pc := 2) (nA := 1) (Xr := W_X9_addWord (xg x) a0 a1 a2 a3 a4 a5 a6 a7 a8 a9 a10 a11 a12 a13 v0 v1 v2 v3 v4 v5 v6) (rest := [.ref a0]) (c_X9_isWord (xl x) (xg x) p1 h) gX9_addWord_X9_isWord (by rfl) rfl (by decide +kernel) ⟨⟨(Nat.le_of_ble_eq_true rfl), (Nat.le_of_ble_eq_true rfl)⟩, (Nat.le_of_ble_eq_true rfl), (Nat.le_of_ble_eq_true rfl)⟩ (Nat.le_of_ble_eq_true rfl) (sb_rf _) rfl dX9_addWord_2 (fun v X1 hp => ?_)
  obtain ⟨r1, rfl, rfl, h⟩ := hp
  show ww x (W_X9_addWord (xg x) a0 a1 a2 a3 a4 a5 a6 a7 a8 a9 a10 a11 a12 a13 v0 v1 v2 v3 v4 v5 v6) [(0, .ref a0), (1, .long p1)] 0 0 5 [.int r1, .ref a0]
  refine xw_callV hf (pc := 5) (nA := 1) (Xr := [(a1, .inl (gJ (xg x), 60, .inr (.inl v6)))]) (rest := []) (T := TX9) (c_X9_isGood (xl x) (xg x) a0 a1 a2 a3 a4 a5 a6 a7 a8 a9 a10 a11 a12 a13 v0 v1 v2 v3 v4 v5 r1 h) gX9_addWord_X9_isGood (by rfl) rfl rfl (by decide +kernel) ⟨⟨(Nat.le_of_ble_eq_true rfl), (Nat.le_of_ble_eq_true rfl)⟩, (Nat.le_of_ble_eq_true rfl), (Nat.le_of_ble_eq_true rfl)⟩ (Nat.le_of_ble_eq_true rfl) rfl rfl (sb_of [0, 1] rfl rfl) rfl dX9_addWord_5 (fun v X1 hp => ?_)
  obtain ⟨r2, w3, rfl, rfl, h⟩ := hp
  refine xw_X (sb_of [0, 1] rfl rfl) (show ww x (W_X9_addWord (xg x) a0 a1 a2 a3 a4 a5 a6 a7 a8 a9 a10 a11 a12 a13 w3 v1 v2 v3 v4 v5 v6) [(0, .ref a0), (1, .long p1)] 0 0 8 [.int r2] from ?_)
  refine xw_if_ne hf (pc := 8) dX9_addWord_8 (c := r2 = 0) Iff.rfl (tgt := 13) rfl ⟨fun c => ?_, fun c => ?_⟩
  · have h := h.1 c
    refine xw_iconst hf (pc := 11) dX9_addWord_11 (v := 0) (by decide) ?_
    exact xw_iret hf (pc := 12) dX9_addWord_12 hr (Nat.le_of_ble_eq_true rfl) (Nat.le_of_ble_eq_true rfl) ⟨_, _, _, _, rfl, rfl, h⟩
  · have h := h.2 c
    refine xw_aload_n hf (pc := 13) dX9_addWord_13 rfl 0 rfl ?_
    refine xw_lload_n hf (pc := 14) dX9_addWord_14 rfl 1 rfl ?_
    refine xw_callV hf (pc := 15) (nA := 1) (Xr := []) (rest := []) (T := TX9) (c_X9_placeOf (xl x) (xg x) a0 a1 a2 a3 a4 a5 a6 a7 a8 a9 a10 a11 a12 a13 w3 v1 v2 v3 v4 v5 v6 p1 h) gX9_addWord_X9_placeOf (by rfl) rfl rfl (by decide +kernel) ⟨⟨(Nat.le_of_ble_eq_true rfl), (Nat.le_of_ble_eq_true rfl)⟩, (Nat.le_of_ble_eq_true rfl), (Nat.le_of_ble_eq_true rfl)⟩ (Nat.le_of_ble_eq_true rfl) rfl rfl (sb_of [0, 1] rfl rfl) rfl dX9_addWord_15 (fun v X1 hp => ?_)
    obtain ⟨r4, rfl, rfl, h⟩ := hp
    refine xw_X (sb_of [0, 1] rfl rfl) (show ww x (W_X9_addWord (xg x) a0 a1 a2 a3 a4 a5 a6 a7 a8 a9 a10 a11 a12 a13 w3 v1 v2 v3 v4 v5 v6) [(0, .ref a0), (1, .long p1)] 0 0 18 [.int r4] from ?_)
    refine xw_iconst hf (pc := 18) dX9_addWord_18 (v := (-1)) (by decide) ?_
    refine xw_icmp_ne hf (pc := 19) dX9_addWord_19 (tgt := 31) rfl ⟨fun c => ?_, fun c => ?_⟩
    · have h := h.1 c
      refine xw_aload_n hf (pc := 22) dX9_addWord_22 rfl 0 rfl ?_
      refine xw_get hf (pc := 23) dX9_addWord_23 (T := TX9) mi_X9_addWord_X9 rfl 0 rfl 2 (by decide) rfl mw_X9_addWord_0 rfl ?_
      refine xw_bipush hf (pc := 26) dX9_addWord_26 (v := 60) (by decide) ?_
      refine xw_icmp_ne hf (pc := 28) dX9_addWord_28 (tgt := 37) rfl ⟨fun c => ?_, fun c => ?_⟩
      · have h := h.1 c
        refine xw_aload_n hf (pc := 31) dX9_addWord_31 rfl 0 rfl ?_
        refine xw_iconst hf (pc := 32) dX9_addWord_32 (v := 2) (by decide) ?_
        refine xw_callV hf (pc := 33) (nA := 1) (Xr := [(a1, .inl (gJ (xg x), 60, .inr (.inl v6)))]) (rest := []) (T := TX9) (c_X9_fail (xl x) (xg x) a0 a1 a2 a3 a4 a5 a6 a7 a8 a9 a10 a11 a12 a13 w3 v1 v2 v3 v4 v5 2 h) gX9_addWord_X9_fail (by rfl) rfl rfl (by decide +kernel) ⟨⟨(Nat.le_of_ble_eq_true rfl), (Nat.le_of_ble_eq_true rfl)⟩, (Nat.le_of_ble_eq_true rfl), (Nat.le_of_ble_eq_true rfl)⟩ (Nat.le_of_ble_eq_true rfl) rfl rfl (sb_of [0, 1] rfl rfl) rfl dX9_addWord_33 (fun v X1 hp => ?_)
        obtain ⟨r5, w6, rfl, rfl, h⟩ := hp
        refine xw_X (sb_of [0, 1] rfl rfl) (show ww x (W_X9_addWord (xg x) a0 a1 a2 a3 a4 a5 a6 a7 a8 a9 a10 a11 a12 a13 w6 v1 v2 v3 v4 v5 v6) [(0, .ref a0), (1, .long p1)] 0 0 36 [.int r5] from ?_)
        exact xw_iret hf (pc := 36) dX9_addWord_36 hr (Nat.le_of_ble_eq_true rfl) (Nat.le_of_ble_eq_true rfl) ⟨_, _, _, _, rfl, rfl, h⟩
      · have h := h.2 c
        refine xw_aload_n hf (pc := 37) dX9_addWord_37 rfl 0 rfl ?_
        refine xw_get hf (pc := 38) dX9_addWord_38 (T := TX9) mi_X9_addWord_X9 rfl 0 rfl 1 (by decide) rfl mw_X9_addWord_1 rfl ?_
        refine xw_aload_n hf (pc := 41) dX9_addWord_41 rfl 0 rfl ?_
        refine xw_get hf (pc := 42) dX9_addWord_42 (T := TX9) mi_X9_addWord_X9 rfl 0 rfl 2 (by decide) rfl mw_X9_addWord_0 rfl ?_
        refine xw_lload_n hf (pc := 45) dX9_addWord_45 rfl 1 rfl ?_
        refine xw_last hf (pc := 46) dX9_addWord_46 1 rfl h.1 (W_X9_addWord (xg x) a0 a1 a2 a3 a4 a5 a6 a7 a8 a9 a10 a11 a12 a13 w3 v1 v2 v3 v4 v5 (vp_updL v6 v1.toNatClampNeg p1)) rfl ?_
        have h := h.2
        refine xw_aload_n hf (pc := 47) dX9_addWord_47 rfl 0 rfl ?_
        refine xw_dup hf (pc := 48) dX9_addWord_48 rfl ?_
        refine xw_get hf (pc := 49) dX9_addWord_49 (T := TX9) mi_X9_addWord_X9 rfl 0 rfl 2 (by decide) rfl mw_X9_addWord_0 rfl ?_
        refine xw_iconst hf (pc := 52) dX9_addWord_52 (v := 1) (by decide) ?_
        refine xw_iadd hf (pc := 53) dX9_addWord_53 ?_
        refine xw_put hf (pc := 54) dX9_addWord_54 (T := TX9) mi_X9_addWord_X9 rfl tyX9_ok nmX9 0 rfl 2 (by decide) rfl mw_X9_addWord_0 rfl rfl rfl rfl (Nat.le_of_ble_eq_true rfl) (W_X9_addWord (xg x) a0 a1 a2 a3 a4 a5 a6 a7 a8 a9 a10 a11 a12 a13 w3 (v1 + 1) v2 v3 v4 v5 (vp_updL v6 v1.toNatClampNeg p1)) rfl ?_
        refine xw_aload_n hf (pc := 57) dX9_addWord_57 rfl 0 rfl ?_
        refine xw_get hf (pc := 58) dX9_addWord_58 (T := TX9) mi_X9_addWord_X9 rfl 0 rfl 2 (by decide) rfl mw_X9_addWord_0 rfl ?_
        exact xw_iret hf (pc := 61) dX9_addWord_61 hr (Nat.le_of_ble_eq_true rfl) (Nat.le_of_ble_eq_true rfl) ⟨_, _, _, _, rfl, rfl, h⟩
    · have h := h.2 c
      refine xw_aload_n hf (pc := 31) dX9_addWord_31 rfl 0 rfl ?_
      refine xw_iconst hf (pc := 32) dX9_addWord_32 (v := 2) (by decide) ?_
      refine xw_callV hf (pc := 33) (nA := 1) (Xr := [(a1, .inl (gJ (xg x), 60, .inr (.inl v6)))]) (rest := []) (T := TX9) (c_X9_fail (xl x) (xg x) a0 a1 a2 a3 a4 a5 a6 a7 a8 a9 a10 a11 a12 a13 w3 v1 v2 v3 v4 v5 2 h) gX9_addWord_X9_fail (by rfl) rfl rfl (by decide +kernel) ⟨⟨(Nat.le_of_ble_eq_true rfl), (Nat.le_of_ble_eq_true rfl)⟩, (Nat.le_of_ble_eq_true rfl), (Nat.le_of_ble_eq_true rfl)⟩ (Nat.le_of_ble_eq_true rfl) rfl rfl (sb_of [0, 1] rfl rfl) rfl dX9_addWord_33 (fun v X1 hp => ?_)
      obtain ⟨r7, w8, rfl, rfl, h⟩ := hp
      refine xw_X (sb_of [0, 1] rfl rfl) (show ww x (W_X9_addWord (xg x) a0 a1 a2 a3 a4 a5 a6 a7 a8 a9 a10 a11 a12 a13 w8 v1 v2 v3 v4 v5 v6) [(0, .ref a0), (1, .long p1)] 0 0 36 [.int r7] from ?_)
      exact xw_iret hf (pc := 36) dX9_addWord_36 hr (Nat.le_of_ble_eq_true rfl) (Nat.le_of_ble_eq_true rfl) ⟨_, _, _, _, rfl, rfl, h⟩
abbrev W_X9_removeWord (g : Gx) (a0 a1 a2 a3 a4 a5 a6 a7 a8 a9 a10 a11 a12 a13 : Nat) (v0 : Int32) (v1 : Int32) (v2 : Int32) (v3 : Int32) (v4 : Int32) (v5 : Int32) (v6 : Nat → Int64) : va_W := [(a0, .inr (9, [.int v0, .ref a1, .int v1, .ref a2, .ref a3, .ref a4, .ref a5, .ref a6, .ref a7, .ref a8, .int v2, .int v3, .ref a9, .int v4, .ref a10, .ref a11, .ref a12, .ref a13, .int v5])), (a1, .inl (gJ g, 60, .inr (.inl v6)))]
abbrev rm_X9_removeWord : Room := { frames := 2, cells := 0, slots := 0, locals := 48 }
theorem mw_X9_removeWord_0 : (Cond.fieldLink RX9 76 "AnagramButcherModel" "wordCount" "I" : Cond) ∈ wsX9_removeWord := (List.mem_cons_of_mem _ (List.mem_append_left _ (List.mem_append_left _ (List.mem_of_getElem? (l := wsX9_removeWord_r1) (i := 0) rfl))))
theorem mw_X9_removeWord_1 : (Cond.fieldLink RX9 7 "AnagramButcherModel" "words" "[J" : Cond) ∈ wsX9_removeWord := (List.mem_cons_of_mem _ (List.mem_append_left _ (List.mem_append_left _ (List.mem_of_getElem? (l := wsX9_removeWord_r1) (i := 1) rfl))))
theorem mi_X9_removeWord_X9 : ∀ w ∈ wsX90, w ∈ wsX9_removeWord := fun _ h => (List.mem_cons_of_mem _ (List.mem_append_right _ h))
set_option maxHeartbeats 4000000 in
set_option maxRecDepth 100000 in
theorem c_X9_removeWord (l : Launch) (g : Gx) (a0 a1 a2 a3 a4 a5 a6 a7 a8 a9 a10 a11 a12 a13 : Nat) (v0 : Int32) (v1 : Int32) (v2 : Int32) (v3 : Int32) (v4 : Int32) (v5 : Int32) (v6 : Nat → Int64) (p1 : Int64) {post : Int32 → Int32 → Int32 → (Nat → Int64) → Prop} (h : P_X9_removeWord post p1 v0 v1 v2 v3 v4 v5 v6) : cm l g yX9_removeWord wsX9_removeWord (rm_X9_removeWord) [.ref a0, .long p1] (W_X9_removeWord g a0 a1 a2 a3 a4 a5 a6 a7 a8 a9 a10 a11 a12 a13 v0 v1 v2 v3 v4 v5 v6) (fun v X1 => ∃ (r : Int32) (uv0 : Int32) (uv1 : Int32) (uv6 : Nat → Int64), v = some (.int r) ∧ X1 = W_X9_removeWord g a0 a1 a2 a3 a4 a5 a6 a7 a8 a9 a10 a11 a12 a13 uv0 uv1 v2 v3 v4 v5 uv6 ∧ post r uv0 uv1 uv6) := by
  refine cm_of (cc := cX9_removeWord) (nL := 4) (ret := (some .int)) (by decide +kernel) rfl (Nat.le_of_ble_eq_true rfl) ?_
  intro x hf hl hg hn hi hr
  subst hl
  subst hg
  show ww x (W_X9_removeWord (xg x) a0 a1 a2 a3 a4 a5 a6 a7 a8 a9 a10 a11 a12 a13 v0 v1 v2 v3 v4 v5 v6) [(0, .ref a0), (1, .long p1)] 0 0 0 []
  unfold P_X9_removeWord at h
  refine xw_aload_n hf (pc := 0) dX9_removeWord_0 rfl 0 rfl ?_
  refine xw_lload_n hf (pc := 1) dX9_removeWord_1 rfl 1 rfl ?_
  refine xw_callS hf (pc := 2) (nA := 1) (Xr := W_X9_removeWord (xg x) a0 a1 a2 a3 a4 a5 a6 a7 a8 a9 a10 a11 a12 a13 v0 v1 v2 v3 v4 v5 v6) (rest := [.ref a0]) (c_X9_isWord (xl x) (xg x) p1 h) gX9_removeWord_X9_isWord (by rfl) rfl (by decide +kernel) ⟨⟨(Nat.le_of_ble_eq_true rfl), (Nat.le_of_ble_eq_true rfl)⟩, (Nat.le_of_ble_eq_true rfl), (Nat.le_of_ble_eq_true rfl)⟩ (Nat.le_of_ble_eq_true rfl) (sb_rf _) rfl dX9_removeWord_2 (fun v X1 hp => ?_)
  obtain ⟨r1, rfl, rfl, h⟩ := hp
  show ww x (W_X9_removeWord (xg x) a0 a1 a2 a3 a4 a5 a6 a7 a8 a9 a10 a11 a12 a13 v0 v1 v2 v3 v4 v5 v6) [(0, .ref a0), (1, .long p1)] 0 0 5 [.int r1, .ref a0]
  refine xw_callV hf (pc := 5) (nA := 1) (Xr := [(a1, .inl (gJ (xg x), 60, .inr (.inl v6)))]) (rest := []) (T := TX9) (c_X9_isGood (xl x) (xg x) a0 a1 a2 a3 a4 a5 a6 a7 a8 a9 a10 a11 a12 a13 v0 v1 v2 v3 v4 v5 r1 h) gX9_removeWord_X9_isGood (by rfl) rfl rfl (by decide +kernel) ⟨⟨(Nat.le_of_ble_eq_true rfl), (Nat.le_of_ble_eq_true rfl)⟩, (Nat.le_of_ble_eq_true rfl), (Nat.le_of_ble_eq_true rfl)⟩ (Nat.le_of_ble_eq_true rfl) rfl rfl (sb_of [0, 1] rfl rfl) rfl dX9_removeWord_5 (fun v X1 hp => ?_)
  obtain ⟨r2, w3, rfl, rfl, h⟩ := hp
  refine xw_X (sb_of [0, 1] rfl rfl) (show ww x (W_X9_removeWord (xg x) a0 a1 a2 a3 a4 a5 a6 a7 a8 a9 a10 a11 a12 a13 w3 v1 v2 v3 v4 v5 v6) [(0, .ref a0), (1, .long p1)] 0 0 8 [.int r2] from ?_)
  refine xw_if_ne hf (pc := 8) dX9_removeWord_8 (c := r2 = 0) Iff.rfl (tgt := 13) rfl ⟨fun c => ?_, fun c => ?_⟩
  · have h := h.1 c
    refine xw_iconst hf (pc := 11) dX9_removeWord_11 (v := 0) (by decide) ?_
    exact xw_iret hf (pc := 12) dX9_removeWord_12 hr (Nat.le_of_ble_eq_true rfl) (Nat.le_of_ble_eq_true rfl) ⟨_, _, _, _, rfl, rfl, h⟩
  · have h := h.2 c
    refine xw_aload_n hf (pc := 13) dX9_removeWord_13 rfl 0 rfl ?_
    refine xw_lload_n hf (pc := 14) dX9_removeWord_14 rfl 1 rfl ?_
    refine xw_callV hf (pc := 15) (nA := 1) (Xr := []) (rest := []) (T := TX9) (c_X9_placeOf (xl x) (xg x) a0 a1 a2 a3 a4 a5 a6 a7 a8 a9 a10 a11 a12 a13 w3 v1 v2 v3 v4 v5 v6 p1 h) gX9_removeWord_X9_placeOf (by rfl) rfl rfl (by decide +kernel) ⟨⟨(Nat.le_of_ble_eq_true rfl), (Nat.le_of_ble_eq_true rfl)⟩, (Nat.le_of_ble_eq_true rfl), (Nat.le_of_ble_eq_true rfl)⟩ (Nat.le_of_ble_eq_true rfl) rfl rfl (sb_of [0, 1] rfl rfl) rfl dX9_removeWord_15 (fun v X1 hp => ?_)
    obtain ⟨r4, rfl, rfl, h⟩ := hp
    refine xw_X (sb_of [0, 1] rfl rfl) (show ww x (W_X9_removeWord (xg x) a0 a1 a2 a3 a4 a5 a6 a7 a8 a9 a10 a11 a12 a13 w3 v1 v2 v3 v4 v5 v6) [(0, .ref a0), (1, .long p1)] 0 0 18 [.int r4] from ?_)
    refine xw_istore_n hf (pc := 18) dX9_removeWord_18 rfl [(3, .int r4), (0, .ref a0), (1, .long p1)] hn (by decide) rfl ?_
    refine xw_iload_n hf (pc := 19) dX9_removeWord_19 rfl 0 rfl ?_
    refine xw_iconst hf (pc := 20) dX9_removeWord_20 (v := (-1)) (by decide) ?_
    refine xw_icmp_ne hf (pc := 21) dX9_removeWord_21 (tgt := 30) rfl ⟨fun c => ?_, fun c => ?_⟩
    · have h := h.1 c
      refine xw_aload_n hf (pc := 24) dX9_removeWord_24 rfl 1 rfl ?_
      refine xw_iconst hf (pc := 25) dX9_removeWord_25 (v := 2) (by decide) ?_
      refine xw_callV hf (pc := 26) (nA := 1) (Xr := [(a1, .inl (gJ (xg x), 60, .inr (.inl v6)))]) (rest := []) (T := TX9) (c_X9_fail (xl x) (xg x) a0 a1 a2 a3 a4 a5 a6 a7 a8 a9 a10 a11 a12 a13 w3 v1 v2 v3 v4 v5 2 h) gX9_removeWord_X9_fail (by rfl) rfl rfl (by decide +kernel) ⟨⟨(Nat.le_of_ble_eq_true rfl), (Nat.le_of_ble_eq_true rfl)⟩, (Nat.le_of_ble_eq_true rfl), (Nat.le_of_ble_eq_true rfl)⟩ (Nat.le_of_ble_eq_true rfl) rfl rfl (sb_of [0, 1] rfl rfl) rfl dX9_removeWord_26 (fun v X1 hp => ?_)
      obtain ⟨r5, w6, rfl, rfl, h⟩ := hp
      refine xw_X (sb_of [0, 1] rfl rfl) (show ww x (W_X9_removeWord (xg x) a0 a1 a2 a3 a4 a5 a6 a7 a8 a9 a10 a11 a12 a13 w6 v1 v2 v3 v4 v5 v6) [(3, .int r4), (0, .ref a0), (1, .long p1)] 0 0 29 [.int r5] from ?_)
      exact xw_iret hf (pc := 29) dX9_removeWord_29 hr (Nat.le_of_ble_eq_true rfl) (Nat.le_of_ble_eq_true rfl) ⟨_, _, _, _, rfl, rfl, h⟩
    · have h := h.2 c
      refine xw_aload_n hf (pc := 30) dX9_removeWord_30 rfl 1 rfl ?_
      refine xw_dup hf (pc := 31) dX9_removeWord_31 rfl ?_
      refine xw_get hf (pc := 32) dX9_removeWord_32 (T := TX9) mi_X9_removeWord_X9 rfl 0 rfl 2 (by decide) rfl mw_X9_removeWord_0 rfl ?_
      refine xw_iconst hf (pc := 35) dX9_removeWord_35 (v := 1) (by decide) ?_
      refine xw_isub hf (pc := 36) dX9_removeWord_36 ?_
      refine xw_put hf (pc := 37) dX9_removeWord_37 (T := TX9) mi_X9_removeWord_X9 rfl tyX9_ok nmX9 0 rfl 2 (by decide) rfl mw_X9_removeWord_0 rfl rfl rfl rfl (Nat.le_of_ble_eq_true rfl) (W_X9_removeWord (xg x) a0 a1 a2 a3 a4 a5 a6 a7 a8 a9 a10 a11 a12 a13 w3 (v1 - 1) v2 v3 v4 v5 v6) rfl ?_
      refine xw_aload_n hf (pc := 40) dX9_removeWord_40 rfl 1 rfl ?_
      refine xw_get hf (pc := 41) dX9_removeWord_41 (T := TX9) mi_X9_removeWord_X9 rfl 0 rfl 1 (by decide) rfl mw_X9_removeWord_1 rfl ?_
      refine xw_iload_n hf (pc := 44) dX9_removeWord_44 rfl 0 rfl ?_
      refine xw_aload_n hf (pc := 45) dX9_removeWord_45 rfl 1 rfl ?_
      refine xw_get hf (pc := 46) dX9_removeWord_46 (T := TX9) mi_X9_removeWord_X9 rfl 0 rfl 1 (by decide) rfl mw_X9_removeWord_1 rfl ?_
      refine xw_aload_n hf (pc := 49) dX9_removeWord_49 rfl 1 rfl ?_
      refine xw_get hf (pc := 50) dX9_removeWord_50 (T := TX9) mi_X9_removeWord_X9 rfl 0 rfl 2 (by decide) rfl mw_X9_removeWord_0 rfl ?_
      refine xw_lald hf (pc := 53) dX9_removeWord_53 1 rfl h.1 ?_
      have h := h.2
      refine xw_last hf (pc := 54) dX9_removeWord_54 1 rfl h.1 (W_X9_removeWord (xg x) a0 a1 a2 a3 a4 a5 a6 a7 a8 a9 a10 a11 a12 a13 w3 (v1 - 1) v2 v3 v4 v5 (vp_updL v6 r4.toNatClampNeg (v6 (v1 - 1).toNatClampNeg))) rfl ?_
      have h := h.2
      refine xw_aload_n hf (pc := 55) dX9_removeWord_55 rfl 1 rfl ?_
      refine xw_get hf (pc := 56) dX9_removeWord_56 (T := TX9) mi_X9_removeWord_X9 rfl 0 rfl 2 (by decide) rfl mw_X9_removeWord_0 rfl ?_
      exact xw_iret hf (pc := 59) dX9_removeWord_59 hr (Nat.le_of_ble_eq_true rfl) (Nat.le_of_ble_eq_true rfl) ⟨_, _, _, _, rfl, rfl, h⟩
abbrev W_X9_wordCount (g : Gx) (a0 a1 a2 a3 a4 a5 a6 a7 a8 a9 a10 a11 a12 a13 : Nat) (v0 : Int32) (v1 : Int32) (v2 : Int32) (v3 : Int32) (v4 : Int32) (v5 : Int32) : va_W := [(a0, .inr (9, [.int v0, .ref a1, .int v1, .ref a2, .ref a3, .ref a4, .ref a5, .ref a6, .ref a7, .ref a8, .int v2, .int v3, .ref a9, .int v4, .ref a10, .ref a11, .ref a12, .ref a13, .int v5]))]
abbrev rm_X9_wordCount : Room := { frames := 0, cells := 0, slots := 0, locals := 0 }
theorem mw_X9_wordCount_0 : (Cond.fieldLink RX9 55 "AnagramButcherModel" "thrown" "I" : Cond) ∈ wsX9_wordCount := (List.mem_cons_of_mem _ (List.mem_append_left _ (List.mem_of_getElem? (i := 0) rfl)))
theorem mw_X9_wordCount_1 : (Cond.fieldLink RX9 76 "AnagramButcherModel" "wordCount" "I" : Cond) ∈ wsX9_wordCount := (List.mem_cons_of_mem _ (List.mem_append_left _ (List.mem_of_getElem? (i := 1) rfl)))
theorem mi_X9_wordCount_X9 : ∀ w ∈ wsX90, w ∈ wsX9_wordCount := fun _ h => (List.mem_cons_of_mem _ (List.mem_append_right _ h))
set_option maxHeartbeats 4000000 in
set_option maxRecDepth 100000 in
theorem c_X9_wordCount (l : Launch) (g : Gx) (a0 a1 a2 a3 a4 a5 a6 a7 a8 a9 a10 a11 a12 a13 : Nat) (v0 : Int32) (v1 : Int32) (v2 : Int32) (v3 : Int32) (v4 : Int32) (v5 : Int32) {post : Int32 → Int32 → Prop} (h : P_X9_wordCount post v0 v1 v2 v3 v4 v5) : cm l g yX9_wordCount wsX9_wordCount (rm_X9_wordCount) [.ref a0] (W_X9_wordCount g a0 a1 a2 a3 a4 a5 a6 a7 a8 a9 a10 a11 a12 a13 v0 v1 v2 v3 v4 v5) (fun v X1 => ∃ (r : Int32) (uv0 : Int32), v = some (.int r) ∧ X1 = W_X9_wordCount g a0 a1 a2 a3 a4 a5 a6 a7 a8 a9 a10 a11 a12 a13 uv0 v1 v2 v3 v4 v5 ∧ post r uv0) := by
  refine cm_of (cc := cX9_wordCount) (nL := 1) (ret := (some .int)) (by decide +kernel) rfl (Nat.le_of_ble_eq_true rfl) ?_
  intro x hf hl hg hn hi hr
  subst hl
  subst hg
  show ww x (W_X9_wordCount (xg x) a0 a1 a2 a3 a4 a5 a6 a7 a8 a9 a10 a11 a12 a13 v0 v1 v2 v3 v4 v5) [(0, .ref a0)] 0 0 0 []
  unfold P_X9_wordCount at h
  refine xw_aload_n hf (pc := 0) dX9_wordCount_0 rfl 0 rfl ?_
  refine xw_iconst hf (pc := 1) dX9_wordCount_1 (v := 0) (by decide) ?_
  refine xw_put hf (pc := 2) dX9_wordCount_2 (T := TX9) mi_X9_wordCount_X9 rfl tyX9_ok nmX9 0 rfl 0 (by decide) rfl mw_X9_wordCount_0 rfl rfl rfl rfl (Nat.le_of_ble_eq_true rfl) (W_X9_wordCount (xg x) a0 a1 a2 a3 a4 a5 a6 a7 a8 a9 a10 a11 a12 a13 0 v1 v2 v3 v4 v5) rfl ?_
  refine xw_aload_n hf (pc := 5) dX9_wordCount_5 rfl 0 rfl ?_
  refine xw_get hf (pc := 6) dX9_wordCount_6 (T := TX9) mi_X9_wordCount_X9 rfl 0 rfl 2 (by decide) rfl mw_X9_wordCount_1 rfl ?_
  exact xw_iret hf (pc := 9) dX9_wordCount_9 hr (Nat.le_of_ble_eq_true rfl) (Nat.le_of_ble_eq_true rfl) ⟨_, _, rfl, rfl, h⟩
abbrev W_X9_isAsked (g : Gx) (a0 a1 a2 a3 a4 a5 a6 a7 a8 a9 a10 a11 a12 a13 : Nat) (v0 : Int32) (v1 : Int32) (v2 : Int32) (v3 : Int32) (v4 : Int32) (v5 : Int32) (v6 : Nat → Int32) : va_W := [(a0, .inr (9, [.int v0, .ref a2, .int v1, .ref a3, .ref a4, .ref a5, .ref a6, .ref a7, .ref a8, .ref a9, .int v2, .int v3, .ref a10, .int v4, .ref a1, .ref a11, .ref a12, .ref a13, .int v5])), (a1, .inl (gI g, 27, .inl v6))]
abbrev rm_X9_isAsked : Room := { frames := 2, cells := 0, slots := 0, locals := 51 }
theorem mw_X9_isAsked_0 : (Cond.fieldLink RX9 69 "AnagramButcherModel" "speltCount" "I" : Cond) ∈ wsX9_isAsked := (List.mem_cons_of_mem _ (List.mem_append_left _ (List.mem_of_getElem? (i := 0) rfl)))
theorem mi_X9_isAsked_X9 : ∀ w ∈ wsX90, w ∈ wsX9_isAsked := fun _ h => (List.mem_cons_of_mem _ (List.mem_append_right _ h))
set_option maxHeartbeats 4000000 in
set_option maxRecDepth 100000 in
theorem c_X9_isAsked (l : Launch) (g : Gx) (a0 a1 a2 a3 a4 a5 a6 a7 a8 a9 a10 a11 a12 a13 : Nat) (v0 : Int32) (v1 : Int32) (v2 : Int32) (v3 : Int32) (v4 : Int32) (v5 : Int32) (v6 : Nat → Int32) (p1 : Int64) (p3 : Int32) {post : Int32 → Prop} (h : P_X9_isAsked post p1 p3 v0 v1 v2 v3 v4 v5 v6) : cm l g yX9_isAsked wsX9_isAsked (rm_X9_isAsked) [.ref a0, .long p1, .int p3] (W_X9_isAsked g a0 a1 a2 a3 a4 a5 a6 a7 a8 a9 a10 a11 a12 a13 v0 v1 v2 v3 v4 v5 v6) (fun v X1 => ∃ (r : Int32), v = some (.int r) ∧ X1 = W_X9_isAsked g a0 a1 a2 a3 a4 a5 a6 a7 a8 a9 a10 a11 a12 a13 v0 v1 v2 v3 v4 v5 v6 ∧ post r) := by
  refine cm_of (cc := cX9_isAsked) (nL := 4) (ret := (some .boolean)) (by decide +kernel) rfl (Nat.le_of_ble_eq_true rfl) ?_
  intro x hf hl hg hn hi hr
  subst hl
  subst hg
  show ww x (W_X9_isAsked (xg x) a0 a1 a2 a3 a4 a5 a6 a7 a8 a9 a10 a11 a12 a13 v0 v1 v2 v3 v4 v5 v6) [(0, .ref a0), (1, .long p1), (3, .int p3)] 0 0 0 []
  unfold P_X9_isAsked at h
  refine xw_iload_n hf (pc := 0) dX9_isAsked_0 rfl 2 rfl ?_
  refine xw_if_eq hf (pc := 1) dX9_isAsked_1 (c := p3 = 0) Iff.rfl (tgt := 28) rfl ⟨fun c => ?_, fun c => ?_⟩
  · have h := h.1 c
    refine xw_iconst hf (pc := 28) dX9_isAsked_28 (v := 1) (by decide) ?_
    refine xw_goto hf (pc := 29) dX9_isAsked_29 (tgt := 33) rfl ?_
    exact xw_zret hf (pc := 33) dX9_isAsked_33 hr (Nat.le_of_ble_eq_true rfl) (Nat.le_of_ble_eq_true rfl) rfl ⟨_, rfl, rfl, h⟩
  · have h := h.2 c
    refine xw_aload_n hf (pc := 4) dX9_isAsked_4 rfl 0 rfl ?_
    refine xw_lload_n hf (pc := 5) dX9_isAsked_5 rfl 1 rfl ?_
    refine xw_callV hf (pc := 6) (nA := 1) (Xr := []) (rest := []) (T := TX9) (c_X9_fits (xl x) (xg x) a0 a1 a2 a3 a4 a5 a6 a7 a8 a9 a10 a11 a12 a13 v0 v1 v2 v3 v4 v5 v6 p1 h) gX9_isAsked_X9_fits (by rfl) rfl rfl (by decide +kernel) ⟨⟨(Nat.le_of_ble_eq_true rfl), (Nat.le_of_ble_eq_true rfl)⟩, (Nat.le_of_ble_eq_true rfl), (Nat.le_of_ble_eq_true rfl)⟩ (Nat.le_of_ble_eq_true rfl) rfl rfl (sb_of [0, 1] rfl rfl) rfl dX9_isAsked_6 (fun v X1 hp => ?_)
    obtain ⟨r1, rfl, rfl, h⟩ := hp
    refine xw_X (sb_of [0, 1] rfl rfl) (show ww x (W_X9_isAsked (xg x) a0 a1 a2 a3 a4 a5 a6 a7 a8 a9 a10 a11 a12 a13 v0 v1 v2 v3 v4 v5 v6) [(0, .ref a0), (1, .long p1), (3, .int p3)] 0 0 9 [.int r1] from ?_)
    refine xw_if_eq hf (pc := 9) dX9_isAsked_9 (c := r1 = 0) Iff.rfl (tgt := 32) rfl ⟨fun c => ?_, fun c => ?_⟩
    · have h := h.1 c
      refine xw_iconst hf (pc := 32) dX9_isAsked_32 (v := 0) (by decide) ?_
      exact xw_zret hf (pc := 33) dX9_isAsked_33 hr (Nat.le_of_ble_eq_true rfl) (Nat.le_of_ble_eq_true rfl) rfl ⟨_, rfl, rfl, h⟩
    · have h := h.2 c
      refine xw_iload_n hf (pc := 12) dX9_isAsked_12 rfl 2 rfl ?_
      refine xw_iconst hf (pc := 13) dX9_isAsked_13 (v := 1) (by decide) ?_
      refine xw_icmp_eq hf (pc := 14) dX9_isAsked_14 (tgt := 28) rfl ⟨fun c => ?_, fun c => ?_⟩
      · have h := h.1 c
        refine xw_iconst hf (pc := 28) dX9_isAsked_28 (v := 1) (by decide) ?_
        refine xw_goto hf (pc := 29) dX9_isAsked_29 (tgt := 33) rfl ?_
        exact xw_zret hf (pc := 33) dX9_isAsked_33 hr (Nat.le_of_ble_eq_true rfl) (Nat.le_of_ble_eq_true rfl) rfl ⟨_, rfl, rfl, h⟩
      · have h := h.2 c
        refine xw_lload_n hf (pc := 17) dX9_isAsked_17 rfl 1 rfl ?_
        refine xw_callS hf (pc := 18) (nA := 1) (Xr := W_X9_isAsked (xg x) a0 a1 a2 a3 a4 a5 a6 a7 a8 a9 a10 a11 a12 a13 v0 v1 v2 v3 v4 v5 v6) (rest := []) (c_X9_lengthOf (xl x) (xg x) p1 h) gX9_isAsked_X9_lengthOf (by rfl) rfl (by decide +kernel) ⟨⟨(Nat.le_of_ble_eq_true rfl), (Nat.le_of_ble_eq_true rfl)⟩, (Nat.le_of_ble_eq_true rfl), (Nat.le_of_ble_eq_true rfl)⟩ (Nat.le_of_ble_eq_true rfl) (sb_rf _) rfl dX9_isAsked_18 (fun v X1 hp => ?_)
        obtain ⟨r2, rfl, rfl, h⟩ := hp
        show ww x (W_X9_isAsked (xg x) a0 a1 a2 a3 a4 a5 a6 a7 a8 a9 a10 a11 a12 a13 v0 v1 v2 v3 v4 v5 v6) [(0, .ref a0), (1, .long p1), (3, .int p3)] 0 0 21 [.int r2]
        refine xw_aload_n hf (pc := 21) dX9_isAsked_21 rfl 0 rfl ?_
        refine xw_get hf (pc := 22) dX9_isAsked_22 (T := TX9) mi_X9_isAsked_X9 rfl 0 rfl 13 (by decide) rfl mw_X9_isAsked_0 rfl ?_
        refine xw_icmp_ne hf (pc := 25) dX9_isAsked_25 (tgt := 32) rfl ⟨fun c => ?_, fun c => ?_⟩
        · have h := h.1 c
          refine xw_iconst hf (pc := 28) dX9_isAsked_28 (v := 1) (by decide) ?_
          refine xw_goto hf (pc := 29) dX9_isAsked_29 (tgt := 33) rfl ?_
          exact xw_zret hf (pc := 33) dX9_isAsked_33 hr (Nat.le_of_ble_eq_true rfl) (Nat.le_of_ble_eq_true rfl) rfl ⟨_, rfl, rfl, h⟩
        · have h := h.2 c
          refine xw_iconst hf (pc := 32) dX9_isAsked_32 (v := 0) (by decide) ?_
          exact xw_zret hf (pc := 33) dX9_isAsked_33 hr (Nat.le_of_ble_eq_true rfl) (Nat.le_of_ble_eq_true rfl) rfl ⟨_, rfl, rfl, h⟩
abbrev W_X9_countAsked (g : Gx) (a0 a1 a2 a3 a4 a5 a6 a7 a8 a9 a10 a11 a12 a13 : Nat) (v0 : Int32) (v1 : Int32) (v2 : Int32) (v3 : Int32) (v4 : Int32) (v5 : Int32) (v6 : Nat → Int64) (v7 : Nat → Int32) : va_W := [(a0, .inr (9, [.int v0, .ref a1, .int v1, .ref a3, .ref a4, .ref a5, .ref a6, .ref a7, .ref a8, .ref a9, .int v2, .int v3, .ref a10, .int v4, .ref a2, .ref a11, .ref a12, .ref a13, .int v5])), (a1, .inl (gJ g, 60, .inr (.inl v6))), (a2, .inl (gI g, 27, .inl v7))]
abbrev rm_X9_countAsked : Room := { frames := 3, cells := 0, slots := 0, locals := 74 }
theorem mw_X9_countAsked_0 : (Cond.fieldLink RX9 76 "AnagramButcherModel" "wordCount" "I" : Cond) ∈ wsX9_countAsked := (List.mem_cons_of_mem _ (List.mem_append_left _ (List.mem_of_getElem? (i := 0) rfl)))
theorem mw_X9_countAsked_1 : (Cond.fieldLink RX9 7 "AnagramButcherModel" "words" "[J" : Cond) ∈ wsX9_countAsked := (List.mem_cons_of_mem _ (List.mem_append_left _ (List.mem_of_getElem? (i := 1) rfl)))
theorem mi_X9_countAsked_X9 : ∀ w ∈ wsX90, w ∈ wsX9_countAsked := fun _ h => (List.mem_cons_of_mem _ (List.mem_append_right _ h))
set_option maxHeartbeats 4000000 in
set_option maxRecDepth 100000 in
theorem w_X9_countAsked_L4 {x : Cx} (hf : fx x (rm_X9_countAsked) RX9 cX9_countAsked wsX9_countAsked) (hn : xn x = 4) {k0 n0 : Nat} (hk : k0 ≤ (rm_X9_countAsked).cells ∧ n0 ≤ (rm_X9_countAsked).slots) (a0 a1 a2 a3 a4 a5 a6 a7 a8 a9 a10 a11 a12 a13 : Nat) (z1 : Int32) (v0 : Int32) (v1 : Int32) (v2 : Int32) (v3 : Int32) (v4 : Int32) (v5 : Int32) (v6 : Nat → Int64) (v7 : Nat → Int32) {K40 : Int32 → Prop}
    (n : Nat) (z2 : Int32) (z3 : Int32) (h : P_X9_countAsked_L4 z1 v0 v1 v2 v3 v4 v5 v6 v7 K40 n z2 z3)
    (hK40 : ∀ (y2 : Int32), K40 y2 → ww x (W_X9_countAsked (xg x) a0 a1 a2 a3 a4 a5 a6 a7 a8 a9 a10 a11 a12 a13 v0 v1 v2 v3 v4 v5 v6 v7) [(2, .int y2)] k0 n0 40 []) :
    ww x (W_X9_countAsked (xg x) a0 a1 a2 a3 a4 a5 a6 a7 a8 a9 a10 a11 a12 a13 v0 v1 v2 v3 v4 v5 v6 v7) [(0, .ref a0), (1, .int z1), (2, .int z2), (3, .int z3)] k0 n0 4 [] := by
  induction n generalizing z2 z3 with
  | zero => exact h.elim
  | succ n ih =>
    unfold P_X9_countAsked_L4 at h
    refine xw_iload_n hf (pc := 4) dX9_countAsked_4 rfl 3 rfl ?_
    refine xw_aload_n hf (pc := 5) dX9_countAsked_5 rfl 0 rfl ?_
    refine xw_get hf (pc := 6) dX9_countAsked_6 (T := TX9) mi_X9_countAsked_X9 rfl 0 rfl 2 (by decide) rfl mw_X9_countAsked_0 rfl ?_
    refine xw_icmp_ge hf (pc := 9) dX9_countAsked_9 (tgt := 40) rfl ⟨fun c => ?_, fun c => ?_⟩
    · have h := h.1 c
      refine xw_L [2] rfl ?_
      exact hK40 _ h
    · have h := h.2 c
      refine xw_iload_n hf (pc := 12) dX9_countAsked_12 rfl 2 rfl ?_
      refine xw_aload_n hf (pc := 13) dX9_countAsked_13 rfl 0 rfl ?_
      refine xw_aload_n hf (pc := 14) dX9_countAsked_14 rfl 0 rfl ?_
      refine xw_get hf (pc := 15) dX9_countAsked_15 (T := TX9) mi_X9_countAsked_X9 rfl 0 rfl 1 (by decide) rfl mw_X9_countAsked_1 rfl ?_
      refine xw_iload_n hf (pc := 18) dX9_countAsked_18 rfl 3 rfl ?_
      refine xw_lald hf (pc := 19) dX9_countAsked_19 1 rfl h.1 ?_
      have h := h.2
      refine xw_iload_n hf (pc := 20) dX9_countAsked_20 rfl 1 rfl ?_
      refine xw_callV hf (pc := 21) (nA := 2) (Xr := [(a1, .inl (gJ (xg x), 60, .inr (.inl v6)))]) (rest := [.int z2]) (T := TX9) (c_X9_isAsked (xl x) (xg x) a0 a2 a1 a3 a4 a5 a6 a7 a8 a9 a10 a11 a12 a13 v0 v1 v2 v3 v4 v5 v7 (v6 z3.toNatClampNeg) z1 h) gX9_countAsked_X9_isAsked (by rfl) rfl rfl (by decide +kernel) ⟨⟨(Nat.le_of_ble_eq_true rfl), (Nat.le_of_ble_eq_true rfl)⟩, hk.1, hk.2⟩ (Nat.le_of_ble_eq_true rfl) rfl rfl (sb_of [0, 2, 1] rfl rfl) rfl dX9_countAsked_21 (fun v X1 hp => ?_)
      obtain ⟨r1, rfl, rfl, h⟩ := hp
      refine xw_X (sb_of [0, 2, 1] rfl rfl) (show ww x (W_X9_countAsked (xg x) a0 a1 a2 a3 a4 a5 a6 a7 a8 a9 a10 a11 a12 a13 v0 v1 v2 v3 v4 v5 v6 v7) [(0, .ref a0), (1, .int z1), (2, .int z2), (3, .int z3)] k0 n0 24 [.int r1, .int z2] from ?_)
      refine xw_if_eq hf (pc := 24) dX9_countAsked_24 (c := r1 = 0) Iff.rfl (tgt := 31) rfl ⟨fun c => ?_, fun c => ?_⟩
      · have h := h.1 c
        refine xw_iconst hf (pc := 31) dX9_countAsked_31 (v := 0) (by decide) ?_
        refine xw_iadd hf (pc := 32) dX9_countAsked_32 ?_
        refine xw_topi (fun y2 ey2 => ?_)
        have h := h y2 ey2
        refine xw_istore_n hf (pc := 33) dX9_countAsked_33 rfl [(2, .int y2), (0, .ref a0), (1, .int z1), (3, .int z3)] hn (by decide) rfl ?_
        refine xw_iinc hf (pc := 34) dX9_countAsked_34 (v := z3 + 1) 3 rfl rfl [(3, .int (z3 + 1)), (2, .int y2), (0, .ref a0), (1, .int z1)] hn (by decide) rfl ?_
        refine xw_goto hf (pc := 37) dX9_countAsked_37 (tgt := 4) rfl ?_
        refine xw_L [2, 3, 1, 0] rfl ?_
        exact ih _ _ h
      · have h := h.2 c
        refine xw_iconst hf (pc := 27) dX9_countAsked_27 (v := 1) (by decide) ?_
        refine xw_goto hf (pc := 28) dX9_countAsked_28 (tgt := 32) rfl ?_
        refine xw_iadd hf (pc := 32) dX9_countAsked_32 ?_
        refine xw_topi (fun y3 ey3 => ?_)
        have h := h y3 ey3
        refine xw_istore_n hf (pc := 33) dX9_countAsked_33 rfl [(2, .int y3), (0, .ref a0), (1, .int z1), (3, .int z3)] hn (by decide) rfl ?_
        refine xw_iinc hf (pc := 34) dX9_countAsked_34 (v := z3 + 1) 3 rfl rfl [(3, .int (z3 + 1)), (2, .int y3), (0, .ref a0), (1, .int z1)] hn (by decide) rfl ?_
        refine xw_goto hf (pc := 37) dX9_countAsked_37 (tgt := 4) rfl ?_
        refine xw_L [2, 3, 1, 0] rfl ?_
        exact ih _ _ h
set_option maxHeartbeats 4000000 in
set_option maxRecDepth 100000 in
theorem c_X9_countAsked (l : Launch) (g : Gx) (a0 a1 a2 a3 a4 a5 a6 a7 a8 a9 a10 a11 a12 a13 : Nat) (v0 : Int32) (v1 : Int32) (v2 : Int32) (v3 : Int32) (v4 : Int32) (v5 : Int32) (v6 : Nat → Int64) (v7 : Nat → Int32) (p1 : Int32) {post : Int32 → Prop} (h : P_X9_countAsked post p1 v0 v1 v2 v3 v4 v5 v6 v7) : cm l g yX9_countAsked wsX9_countAsked (rm_X9_countAsked) [.ref a0, .int p1] (W_X9_countAsked g a0 a1 a2 a3 a4 a5 a6 a7 a8 a9 a10 a11 a12 a13 v0 v1 v2 v3 v4 v5 v6 v7) (fun v X1 => ∃ (r : Int32), v = some (.int r) ∧ X1 = W_X9_countAsked g a0 a1 a2 a3 a4 a5 a6 a7 a8 a9 a10 a11 a12 a13 v0 v1 v2 v3 v4 v5 v6 v7 ∧ post r) := by
  refine cm_of (cc := cX9_countAsked) (nL := 4) (ret := (some .int)) (by decide +kernel) rfl (Nat.le_of_ble_eq_true rfl) ?_
  intro x hf hl hg hn hi hr
  subst hl
  subst hg
  show ww x (W_X9_countAsked (xg x) a0 a1 a2 a3 a4 a5 a6 a7 a8 a9 a10 a11 a12 a13 v0 v1 v2 v3 v4 v5 v6 v7) [(0, .ref a0), (1, .int p1)] 0 0 0 []
  unfold P_X9_countAsked at h
  refine xw_iconst hf (pc := 0) dX9_countAsked_0 (v := 0) (by decide) ?_
  refine xw_istore_n hf (pc := 1) dX9_countAsked_1 rfl [(2, .int 0), (0, .ref a0), (1, .int p1)] hn (by decide) rfl ?_
  refine xw_iconst hf (pc := 2) dX9_countAsked_2 (v := 0) (by decide) ?_
  refine xw_istore_n hf (pc := 3) dX9_countAsked_3 rfl [(3, .int 0), (2, .int 0), (0, .ref a0), (1, .int p1)] hn (by decide) rfl ?_
  refine xw_L [2, 3, 1, 0] rfl ?_
  refine w_X9_countAsked_L4 hf hn ⟨(Nat.le_of_ble_eq_true rfl), (Nat.le_of_ble_eq_true rfl)⟩ a0 a1 a2 a3 a4 a5 a6 a7 a8 a9 a10 a11 a12 a13 p1 v0 v1 v2 v3 v4 v5 v6 v7 FU _ _ h (fun x4 h => ?_)
  refine xw_iload_n hf (pc := 40) dX9_countAsked_40 rfl 0 rfl ?_
  exact xw_iret hf (pc := 41) dX9_countAsked_41 hr (Nat.le_of_ble_eq_true rfl) (Nat.le_of_ble_eq_true rfl) ⟨_, rfl, rfl, h⟩
abbrev W_X9_asked (g : Gx) (a0 a1 a2 a3 a4 a5 a6 a7 a8 a9 a10 a11 a12 a13 : Nat) (v0 : Int32) (v1 : Int32) (v2 : Int32) (v3 : Int32) (v4 : Int32) (v5 : Int32) (v6 : Nat → Int64) (v7 : Nat → Int32) : va_W := [(a0, .inr (9, [.int v0, .ref a1, .int v1, .ref a3, .ref a4, .ref a5, .ref a6, .ref a7, .ref a8, .ref a9, .int v2, .int v3, .ref a10, .int v4, .ref a2, .ref a11, .ref a12, .ref a13, .int v5])), (a1, .inl (gJ g, 60, .inr (.inl v6))), (a2, .inl (gI g, 27, .inl v7))]
abbrev rm_X9_asked : Room := { frames := 3, cells := 0, slots := 0, locals := 74 }
theorem mw_X9_asked_0 : (Cond.fieldLink RX9 76 "AnagramButcherModel" "wordCount" "I" : Cond) ∈ wsX9_asked := (List.mem_cons_of_mem _ (List.mem_append_left _ (List.mem_of_getElem? (i := 0) rfl)))
theorem mw_X9_asked_1 : (Cond.fieldLink RX9 7 "AnagramButcherModel" "words" "[J" : Cond) ∈ wsX9_asked := (List.mem_cons_of_mem _ (List.mem_append_left _ (List.mem_of_getElem? (i := 1) rfl)))
theorem mi_X9_asked_X9 : ∀ w ∈ wsX90, w ∈ wsX9_asked := fun _ h => (List.mem_cons_of_mem _ (List.mem_append_right _ h))
set_option maxHeartbeats 4000000 in
set_option maxRecDepth 100000 in
theorem w_X9_asked_L16 {x : Cx} (hf : fx x (rm_X9_asked) RX9 cX9_asked wsX9_asked) (hn : xn x = 6) {k0 n0 : Nat} (hk : k0 ≤ (rm_X9_asked).cells ∧ n0 ≤ (rm_X9_asked).slots) (a0 a1 a2 a3 a4 a5 a6 a7 a8 a9 a10 a11 a12 a13 : Nat) (z1 : Int32) (z2 : Int32) (z3 : Int32) (v0 : Int32) (v1 : Int32) (v2 : Int32) (v3 : Int32) (v4 : Int32) (v5 : Int32) (v6 : Nat → Int64) (v7 : Nat → Int32) {K79 : Int32 → Prop}
    (n : Nat) (z4 : Int32) (z5 : Int32) (h : P_X9_asked_L16 z1 z2 z3 v0 v1 v2 v3 v4 v5 v6 v7 K79 n z4 z5)
    (hK79 : ∀ (y4 : Int32), K79 y4 → ww x (W_X9_asked (xg x) a0 a1 a2 a3 a4 a5 a6 a7 a8 a9 a10 a11 a12 a13 v0 v1 v2 v3 v4 v5 v6 v7) [(0, .ref a0), (1, .int z1), (2, .int z2), (3, .int z3), (4, .int y4)] k0 n0 79 []) :
    ww x (W_X9_asked (xg x) a0 a1 a2 a3 a4 a5 a6 a7 a8 a9 a10 a11 a12 a13 v0 v1 v2 v3 v4 v5 v6 v7) [(0, .ref a0), (1, .int z1), (2, .int z2), (3, .int z3), (4, .int z4), (5, .int z5)] k0 n0 16 [] := by
  induction n generalizing z4 z5 with
  | zero => exact h.elim
  | succ n ih =>
    unfold P_X9_asked_L16 at h
    refine xw_iload hf (pc := 16) dX9_asked_16 5 rfl ?_
    refine xw_aload_n hf (pc := 18) dX9_asked_18 rfl 0 rfl ?_
    refine xw_get hf (pc := 19) dX9_asked_19 (T := TX9) mi_X9_asked_X9 rfl 0 rfl 2 (by decide) rfl mw_X9_asked_0 rfl ?_
    refine xw_icmp_ge hf (pc := 22) dX9_asked_22 (tgt := 79) rfl ⟨fun c => ?_, fun c => ?_⟩
    · have h := h.1 c
      refine xw_L [0, 1, 2, 3, 4] rfl ?_
      exact hK79 _ h
    · have h := h.2 c
      refine xw_iload hf (pc := 25) dX9_asked_25 4 rfl ?_
      refine xw_aload_n hf (pc := 27) dX9_asked_27 rfl 0 rfl ?_
      refine xw_aload_n hf (pc := 28) dX9_asked_28 rfl 0 rfl ?_
      refine xw_get hf (pc := 29) dX9_asked_29 (T := TX9) mi_X9_asked_X9 rfl 0 rfl 1 (by decide) rfl mw_X9_asked_1 rfl ?_
      refine xw_iload hf (pc := 32) dX9_asked_32 5 rfl ?_
      refine xw_lald hf (pc := 34) dX9_asked_34 1 rfl h.1 ?_
      have h := h.2
      refine xw_iload_n hf (pc := 35) dX9_asked_35 rfl 1 rfl ?_
      refine xw_callV hf (pc := 36) (nA := 2) (Xr := [(a1, .inl (gJ (xg x), 60, .inr (.inl v6)))]) (rest := [.int z4]) (T := TX9) (c_X9_isAsked (xl x) (xg x) a0 a2 a1 a3 a4 a5 a6 a7 a8 a9 a10 a11 a12 a13 v0 v1 v2 v3 v4 v5 v7 (v6 z5.toNatClampNeg) z1 h) gX9_asked_X9_isAsked (by rfl) rfl rfl (by decide +kernel) ⟨⟨(Nat.le_of_ble_eq_true rfl), (Nat.le_of_ble_eq_true rfl)⟩, hk.1, hk.2⟩ (Nat.le_of_ble_eq_true rfl) rfl rfl (sb_of [0, 2, 1] rfl rfl) rfl dX9_asked_36 (fun v X1 hp => ?_)
      obtain ⟨r1, rfl, rfl, h⟩ := hp
      refine xw_X (sb_of [0, 2, 1] rfl rfl) (show ww x (W_X9_asked (xg x) a0 a1 a2 a3 a4 a5 a6 a7 a8 a9 a10 a11 a12 a13 v0 v1 v2 v3 v4 v5 v6 v7) [(0, .ref a0), (1, .int z1), (2, .int z2), (3, .int z3), (4, .int z4), (5, .int z5)] k0 n0 39 [.int r1, .int z4] from ?_)
      refine xw_if_eq hf (pc := 39) dX9_asked_39 (c := r1 = 0) Iff.rfl (tgt := 69) rfl ⟨fun c => ?_, fun c => ?_⟩
      · have h := h.1 c
        refine xw_iconst hf (pc := 69) dX9_asked_69 (v := 0) (by decide) ?_
        refine xw_iadd hf (pc := 70) dX9_asked_70 ?_
        refine xw_topi (fun y2 ey2 => ?_)
        have h := h y2 ey2
        refine xw_istore hf (pc := 71) dX9_asked_71 [(4, .int y2), (0, .ref a0), (1, .int z1), (2, .int z2), (3, .int z3), (5, .int z5)] hn (by decide) rfl ?_
        refine xw_iinc hf (pc := 73) dX9_asked_73 (v := z5 + 1) 5 rfl rfl [(5, .int (z5 + 1)), (4, .int y2), (0, .ref a0), (1, .int z1), (2, .int z2), (3, .int z3)] hn (by decide) rfl ?_
        refine xw_goto hf (pc := 76) dX9_asked_76 (tgt := 16) rfl ?_
        refine xw_L [2, 3, 4, 5, 1, 0] rfl ?_
        exact ih _ _ h
      · have h := h.2 c
        refine xw_aload_n hf (pc := 42) dX9_asked_42 rfl 0 rfl ?_
        refine xw_get hf (pc := 43) dX9_asked_43 (T := TX9) mi_X9_asked_X9 rfl 0 rfl 1 (by decide) rfl mw_X9_asked_1 rfl ?_
        refine xw_iload hf (pc := 46) dX9_asked_46 5 rfl ?_
        refine xw_lald hf (pc := 48) dX9_asked_48 1 rfl h.1 ?_
        have h := h.2
        refine xw_callS hf (pc := 49) (nA := 1) (Xr := W_X9_asked (xg x) a0 a1 a2 a3 a4 a5 a6 a7 a8 a9 a10 a11 a12 a13 v0 v1 v2 v3 v4 v5 v6 v7) (rest := [.int z4]) (c_X9_key (xl x) (xg x) (v6 z5.toNatClampNeg) h) gX9_asked_X9_key (by rfl) rfl (by decide +kernel) ⟨⟨(Nat.le_of_ble_eq_true rfl), (Nat.le_of_ble_eq_true rfl)⟩, hk.1, hk.2⟩ (Nat.le_of_ble_eq_true rfl) (sb_rf _) rfl dX9_asked_49 (fun v X1 hp => ?_)
        obtain ⟨r3, rfl, rfl, h⟩ := hp
        show ww x (W_X9_asked (xg x) a0 a1 a2 a3 a4 a5 a6 a7 a8 a9 a10 a11 a12 a13 v0 v1 v2 v3 v4 v5 v6 v7) [(0, .ref a0), (1, .int z1), (2, .int z2), (3, .int z3), (4, .int z4), (5, .int z5)] k0 n0 52 [.long r3, .int z4]
        refine xw_aload_n hf (pc := 52) dX9_asked_52 rfl 0 rfl ?_
        refine xw_get hf (pc := 53) dX9_asked_53 (T := TX9) mi_X9_asked_X9 rfl 0 rfl 1 (by decide) rfl mw_X9_asked_1 rfl ?_
        refine xw_iload_n hf (pc := 56) dX9_asked_56 rfl 3 rfl ?_
        refine xw_lald hf (pc := 57) dX9_asked_57 1 rfl h.1 ?_
        have h := h.2
        refine xw_callS hf (pc := 58) (nA := 1) (Xr := W_X9_asked (xg x) a0 a1 a2 a3 a4 a5 a6 a7 a8 a9 a10 a11 a12 a13 v0 v1 v2 v3 v4 v5 v6 v7) (rest := [.long r3, .int z4]) (c_X9_key (xl x) (xg x) (v6 z3.toNatClampNeg) h) gX9_asked_X9_key (by rfl) rfl (by decide +kernel) ⟨⟨(Nat.le_of_ble_eq_true rfl), (Nat.le_of_ble_eq_true rfl)⟩, hk.1, hk.2⟩ (Nat.le_of_ble_eq_true rfl) (sb_rf _) rfl dX9_asked_58 (fun v X1 hp => ?_)
        obtain ⟨r4, rfl, rfl, h⟩ := hp
        show ww x (W_X9_asked (xg x) a0 a1 a2 a3 a4 a5 a6 a7 a8 a9 a10 a11 a12 a13 v0 v1 v2 v3 v4 v5 v6 v7) [(0, .ref a0), (1, .int z1), (2, .int z2), (3, .int z3), (4, .int z4), (5, .int z5)] k0 n0 61 [.long r4, .long r3, .int z4]
        refine xw_lcmp hf (pc := 61) dX9_asked_61 ?_
        refine xw_if_ge hf (pc := 62) dX9_asked_62 (c := r4 ≤ r3) (lc_ge _ _) (tgt := 69) rfl ⟨fun c => ?_, fun c => ?_⟩
        · have h := h.1 c
          refine xw_iconst hf (pc := 69) dX9_asked_69 (v := 0) (by decide) ?_
          refine xw_iadd hf (pc := 70) dX9_asked_70 ?_
          refine xw_topi (fun y5 ey5 => ?_)
          have h := h y5 ey5
          refine xw_istore hf (pc := 71) dX9_asked_71 [(4, .int y5), (0, .ref a0), (1, .int z1), (2, .int z2), (3, .int z3), (5, .int z5)] hn (by decide) rfl ?_
          refine xw_iinc hf (pc := 73) dX9_asked_73 (v := z5 + 1) 5 rfl rfl [(5, .int (z5 + 1)), (4, .int y5), (0, .ref a0), (1, .int z1), (2, .int z2), (3, .int z3)] hn (by decide) rfl ?_
          refine xw_goto hf (pc := 76) dX9_asked_76 (tgt := 16) rfl ?_
          refine xw_L [2, 3, 4, 5, 1, 0] rfl ?_
          exact ih _ _ h
        · have h := h.2 c
          refine xw_iconst hf (pc := 65) dX9_asked_65 (v := 1) (by decide) ?_
          refine xw_goto hf (pc := 66) dX9_asked_66 (tgt := 70) rfl ?_
          refine xw_iadd hf (pc := 70) dX9_asked_70 ?_
          refine xw_topi (fun y6 ey6 => ?_)
          have h := h y6 ey6
          refine xw_istore hf (pc := 71) dX9_asked_71 [(4, .int y6), (0, .ref a0), (1, .int z1), (2, .int z2), (3, .int z3), (5, .int z5)] hn (by decide) rfl ?_
          refine xw_iinc hf (pc := 73) dX9_asked_73 (v := z5 + 1) 5 rfl rfl [(5, .int (z5 + 1)), (4, .int y6), (0, .ref a0), (1, .int z1), (2, .int z2), (3, .int z3)] hn (by decide) rfl ?_
          refine xw_goto hf (pc := 76) dX9_asked_76 (tgt := 16) rfl ?_
          refine xw_L [2, 3, 4, 5, 1, 0] rfl ?_
          exact ih _ _ h
set_option maxHeartbeats 4000000 in
set_option maxRecDepth 100000 in
theorem w_X9_asked_L2 {x : Cx} (hf : fx x (rm_X9_asked) RX9 cX9_asked wsX9_asked) (hn : xn x = 6) {k0 n0 : Nat} (hk : k0 ≤ (rm_X9_asked).cells ∧ n0 ≤ (rm_X9_asked).slots) (a0 a1 a2 a3 a4 a5 a6 a7 a8 a9 a10 a11 a12 a13 : Nat) (z1 : Int32) (z2 : Int32) (v0 : Int32) (v1 : Int32) (v2 : Int32) (v3 : Int32) (v4 : Int32) (v5 : Int32) (v6 : Nat → Int64) (v7 : Nat → Int32) {K99 : Int32 → Prop} {K112 : Prop}
    (n : Nat) (z3 : Int32) (h : P_X9_asked_L2 z1 z2 v0 v1 v2 v3 v4 v5 v6 v7 K99 K112 n z3)
    (hK99 : ∀ (y3 : Int32), K99 y3 → ww x (W_X9_asked (xg x) a0 a1 a2 a3 a4 a5 a6 a7 a8 a9 a10 a11 a12 a13 v0 v1 v2 v3 v4 v5 v6 v7) [(0, .ref a0), (3, .int y3)] k0 n0 99 [])
    (hK112 : K112 → ww x (W_X9_asked (xg x) a0 a1 a2 a3 a4 a5 a6 a7 a8 a9 a10 a11 a12 a13 v0 v1 v2 v3 v4 v5 v6 v7) [] k0 n0 112 []) :
    ww x (W_X9_asked (xg x) a0 a1 a2 a3 a4 a5 a6 a7 a8 a9 a10 a11 a12 a13 v0 v1 v2 v3 v4 v5 v6 v7) [(0, .ref a0), (1, .int z1), (2, .int z2), (3, .int z3)] k0 n0 2 [] := by
  induction n generalizing z3 with
  | zero => exact h.elim
  | succ n ih =>
    unfold P_X9_asked_L2 at h
    refine xw_iload_n hf (pc := 2) dX9_asked_2 rfl 3 rfl ?_
    refine xw_aload_n hf (pc := 3) dX9_asked_3 rfl 0 rfl ?_
    refine xw_get hf (pc := 4) dX9_asked_4 (T := TX9) mi_X9_asked_X9 rfl 0 rfl 2 (by decide) rfl mw_X9_asked_0 rfl ?_
    refine xw_icmp_ge hf (pc := 7) dX9_asked_7 (tgt := 112) rfl ⟨fun c => ?_, fun c => ?_⟩
    · have h := h.1 c
      refine xw_L [] rfl ?_
      exact hK112 h
    · have h := h.2 c
      refine xw_iconst hf (pc := 10) dX9_asked_10 (v := 0) (by decide) ?_
      refine xw_istore hf (pc := 11) dX9_asked_11 [(4, .int 0), (0, .ref a0), (1, .int z1), (2, .int z2), (3, .int z3)] hn (by decide) rfl ?_
      refine xw_iconst hf (pc := 13) dX9_asked_13 (v := 0) (by decide) ?_
      refine xw_istore hf (pc := 14) dX9_asked_14 [(5, .int 0), (4, .int 0), (0, .ref a0), (1, .int z1), (2, .int z2), (3, .int z3)] hn (by decide) rfl ?_
      refine xw_L [2, 3, 4, 5, 1, 0] rfl ?_
      refine w_X9_asked_L16 hf hn ⟨hk.1, hk.2⟩ a0 a1 a2 a3 a4 a5 a6 a7 a8 a9 a10 a11 a12 a13 z1 z2 z3 v0 v1 v2 v3 v4 v5 v6 v7 FU _ _ h (fun x7 h => ?_)
      refine xw_iload hf (pc := 79) dX9_asked_79 4 rfl ?_
      refine xw_iload_n hf (pc := 81) dX9_asked_81 rfl 2 rfl ?_
      refine xw_icmp_ne hf (pc := 82) dX9_asked_82 (tgt := 106) rfl ⟨fun c => ?_, fun c => ?_⟩
      · have h := h.1 c
        refine xw_aload_n hf (pc := 85) dX9_asked_85 rfl 0 rfl ?_
        refine xw_aload_n hf (pc := 86) dX9_asked_86 rfl 0 rfl ?_
        refine xw_get hf (pc := 87) dX9_asked_87 (T := TX9) mi_X9_asked_X9 rfl 0 rfl 1 (by decide) rfl mw_X9_asked_1 rfl ?_
        refine xw_iload_n hf (pc := 90) dX9_asked_90 rfl 3 rfl ?_
        refine xw_lald hf (pc := 91) dX9_asked_91 1 rfl h.1 ?_
        have h := h.2
        refine xw_iload_n hf (pc := 92) dX9_asked_92 rfl 1 rfl ?_
        refine xw_callV hf (pc := 93) (nA := 2) (Xr := [(a1, .inl (gJ (xg x), 60, .inr (.inl v6)))]) (rest := []) (T := TX9) (c_X9_isAsked (xl x) (xg x) a0 a2 a1 a3 a4 a5 a6 a7 a8 a9 a10 a11 a12 a13 v0 v1 v2 v3 v4 v5 v7 (v6 z3.toNatClampNeg) z1 h) gX9_asked_X9_isAsked (by rfl) rfl rfl (by decide +kernel) ⟨⟨(Nat.le_of_ble_eq_true rfl), (Nat.le_of_ble_eq_true rfl)⟩, hk.1, hk.2⟩ (Nat.le_of_ble_eq_true rfl) rfl rfl (sb_of [0, 2, 1] rfl rfl) rfl dX9_asked_93 (fun v X1 hp => ?_)
        obtain ⟨r8, rfl, rfl, h⟩ := hp
        refine xw_X (sb_of [0, 2, 1] rfl rfl) (show ww x (W_X9_asked (xg x) a0 a1 a2 a3 a4 a5 a6 a7 a8 a9 a10 a11 a12 a13 v0 v1 v2 v3 v4 v5 v6 v7) [(0, .ref a0), (1, .int z1), (2, .int z2), (3, .int z3), (4, .int x7)] k0 n0 96 [.int r8] from ?_)
        refine xw_if_eq hf (pc := 96) dX9_asked_96 (c := r8 = 0) Iff.rfl (tgt := 106) rfl ⟨fun c => ?_, fun c => ?_⟩
        · have h := h.1 c
          refine xw_iinc hf (pc := 106) dX9_asked_106 (v := z3 + 1) 3 rfl rfl [(3, .int (z3 + 1)), (0, .ref a0), (1, .int z1), (2, .int z2), (4, .int x7)] hn (by decide) rfl ?_
          refine xw_goto hf (pc := 109) dX9_asked_109 (tgt := 2) rfl ?_
          refine xw_L [1, 2, 3, 0] rfl ?_
          exact ih _ h
        · have h := h.2 c
          refine xw_L [0, 3] rfl ?_
          exact hK99 _ h
      · have h := h.2 c
        refine xw_iinc hf (pc := 106) dX9_asked_106 (v := z3 + 1) 3 rfl rfl [(3, .int (z3 + 1)), (0, .ref a0), (1, .int z1), (2, .int z2), (4, .int x7)] hn (by decide) rfl ?_
        refine xw_goto hf (pc := 109) dX9_asked_109 (tgt := 2) rfl ?_
        refine xw_L [1, 2, 3, 0] rfl ?_
        exact ih _ h
set_option maxHeartbeats 4000000 in
set_option maxRecDepth 100000 in
theorem c_X9_asked (l : Launch) (g : Gx) (a0 a1 a2 a3 a4 a5 a6 a7 a8 a9 a10 a11 a12 a13 : Nat) (v0 : Int32) (v1 : Int32) (v2 : Int32) (v3 : Int32) (v4 : Int32) (v5 : Int32) (v6 : Nat → Int64) (v7 : Nat → Int32) (p1 : Int32) (p2 : Int32) {post : Int64 → Prop} (h : P_X9_asked post p1 p2 v0 v1 v2 v3 v4 v5 v6 v7) : cm l g yX9_asked wsX9_asked (rm_X9_asked) [.ref a0, .int p1, .int p2] (W_X9_asked g a0 a1 a2 a3 a4 a5 a6 a7 a8 a9 a10 a11 a12 a13 v0 v1 v2 v3 v4 v5 v6 v7) (fun v X1 => ∃ (r : Int64), v = some (.long r) ∧ X1 = W_X9_asked g a0 a1 a2 a3 a4 a5 a6 a7 a8 a9 a10 a11 a12 a13 v0 v1 v2 v3 v4 v5 v6 v7 ∧ post r) := by
  refine cm_of (cc := cX9_asked) (nL := 6) (ret := (some .long)) (by decide +kernel) rfl (Nat.le_of_ble_eq_true rfl) ?_
  intro x hf hl hg hn hi hr
  subst hl
  subst hg
  show ww x (W_X9_asked (xg x) a0 a1 a2 a3 a4 a5 a6 a7 a8 a9 a10 a11 a12 a13 v0 v1 v2 v3 v4 v5 v6 v7) [(0, .ref a0), (1, .int p1), (2, .int p2)] 0 0 0 []
  unfold P_X9_asked at h
  refine xw_iconst hf (pc := 0) dX9_asked_0 (v := 0) (by decide) ?_
  refine xw_istore_n hf (pc := 1) dX9_asked_1 rfl [(3, .int 0), (0, .ref a0), (1, .int p1), (2, .int p2)] hn (by decide) rfl ?_
  refine xw_L [1, 2, 3, 0] rfl ?_
  refine w_X9_asked_L2 hf hn ⟨(Nat.le_of_ble_eq_true rfl), (Nat.le_of_ble_eq_true rfl)⟩ a0 a1 a2 a3 a4 a5 a6 a7 a8 a9 a10 a11 a12 a13 p1 p2 v0 v1 v2 v3 v4 v5 v6 v7 FU _ h (fun x9 h => ?_) (fun h => ?_)
  · refine xw_aload_n hf (pc := 99) dX9_asked_99 rfl 0 rfl ?_
    refine xw_get hf (pc := 100) dX9_asked_100 (T := TX9) mi_X9_asked_X9 rfl 0 rfl 1 (by decide) rfl mw_X9_asked_1 rfl ?_
    refine xw_iload_n hf (pc := 103) dX9_asked_103 rfl 1 rfl ?_
    refine xw_lald hf (pc := 104) dX9_asked_104 1 rfl h.1 ?_
    have h := h.2
    exact xw_lret hf (pc := 105) dX9_asked_105 hr (Nat.le_of_ble_eq_true rfl) (Nat.le_of_ble_eq_true rfl) ⟨_, rfl, rfl, h⟩
  · refine xw_lconst hf (pc := 112) dX9_asked_112 (v := 0) (by decide) ?_
    exact xw_lret hf (pc := 113) dX9_asked_113 hr (Nat.le_of_ble_eq_true rfl) (Nat.le_of_ble_eq_true rfl) ⟨_, rfl, rfl, h⟩
abbrev W_X9_wordAt (g : Gx) (a0 a1 a2 a3 a4 a5 a6 a7 a8 a9 a10 a11 a12 a13 : Nat) (v0 : Int32) (v1 : Int32) (v2 : Int32) (v3 : Int32) (v4 : Int32) (v5 : Int32) (v6 : Nat → Int64) (v7 : Nat → Int32) : va_W := [(a0, .inr (9, [.int v0, .ref a1, .int v1, .ref a3, .ref a4, .ref a5, .ref a6, .ref a7, .ref a8, .ref a9, .int v2, .int v3, .ref a10, .int v4, .ref a2, .ref a11, .ref a12, .ref a13, .int v5])), (a1, .inl (gJ g, 60, .inr (.inl v6))), (a2, .inl (gI g, 27, .inl v7))]
abbrev rm_X9_wordAt : Room := { frames := 4, cells := 0, slots := 0, locals := 99 }
set_option maxHeartbeats 4000000 in
set_option maxRecDepth 100000 in
theorem c_X9_wordAt (l : Launch) (g : Gx) (a0 a1 a2 a3 a4 a5 a6 a7 a8 a9 a10 a11 a12 a13 : Nat) (v0 : Int32) (v1 : Int32) (v2 : Int32) (v3 : Int32) (v4 : Int32) (v5 : Int32) (v6 : Nat → Int64) (v7 : Nat → Int32) (p1 : Int32) {post : Int64 → Int32 → Prop} (h : P_X9_wordAt post p1 v0 v1 v2 v3 v4 v5 v6 v7) : cm l g yX9_wordAt wsX9_wordAt (rm_X9_wordAt) [.ref a0, .int p1] (W_X9_wordAt g a0 a1 a2 a3 a4 a5 a6 a7 a8 a9 a10 a11 a12 a13 v0 v1 v2 v3 v4 v5 v6 v7) (fun v X1 => ∃ (r : Int64) (uv0 : Int32), v = some (.long r) ∧ X1 = W_X9_wordAt g a0 a1 a2 a3 a4 a5 a6 a7 a8 a9 a10 a11 a12 a13 uv0 v1 v2 v3 v4 v5 v6 v7 ∧ post r uv0) := by
  refine cm_of (cc := cX9_wordAt) (nL := 4) (ret := (some .long)) (by decide +kernel) rfl (Nat.le_of_ble_eq_true rfl) ?_
  intro x hf hl hg hn hi hr
  subst hl
  subst hg
  show ww x (W_X9_wordAt (xg x) a0 a1 a2 a3 a4 a5 a6 a7 a8 a9 a10 a11 a12 a13 v0 v1 v2 v3 v4 v5 v6 v7) [(0, .ref a0), (1, .int p1)] 0 0 0 []
  unfold P_X9_wordAt at h
  refine xw_aload_n hf (pc := 0) dX9_wordAt_0 rfl 0 rfl ?_
  refine xw_iconst hf (pc := 1) dX9_wordAt_1 (v := 0) (by decide) ?_
  refine xw_iload_n hf (pc := 2) dX9_wordAt_2 rfl 1 rfl ?_
  refine xw_callV hf (pc := 3) (nA := 2) (Xr := []) (rest := []) (T := TX9) (c_X9_asked (xl x) (xg x) a0 a1 a2 a3 a4 a5 a6 a7 a8 a9 a10 a11 a12 a13 v0 v1 v2 v3 v4 v5 v6 v7 0 p1 h) gX9_wordAt_X9_asked (by rfl) rfl rfl (by decide +kernel) ⟨⟨(Nat.le_of_ble_eq_true rfl), (Nat.le_of_ble_eq_true rfl)⟩, (Nat.le_of_ble_eq_true rfl), (Nat.le_of_ble_eq_true rfl)⟩ (Nat.le_of_ble_eq_true rfl) rfl rfl (sb_of [0, 1, 2] rfl rfl) rfl dX9_wordAt_3 (fun v X1 hp => ?_)
  obtain ⟨r1, rfl, rfl, h⟩ := hp
  refine xw_X (sb_of [0, 1, 2] rfl rfl) (show ww x (W_X9_wordAt (xg x) a0 a1 a2 a3 a4 a5 a6 a7 a8 a9 a10 a11 a12 a13 v0 v1 v2 v3 v4 v5 v6 v7) [(0, .ref a0), (1, .int p1)] 0 0 6 [.long r1] from ?_)
  refine xw_lstore_n hf (pc := 6) dX9_wordAt_6 rfl [(2, .long r1), (0, .ref a0), (1, .int p1)] hn (by decide) rfl ?_
  refine xw_aload_n hf (pc := 7) dX9_wordAt_7 rfl 1 rfl ?_
  refine xw_lload_n hf (pc := 8) dX9_wordAt_8 rfl 0 rfl ?_
  refine xw_lconst hf (pc := 9) dX9_wordAt_9 (v := 0) (by decide) ?_
  refine xw_lcmp hf (pc := 10) dX9_wordAt_10 ?_
  refine xw_if_eq hf (pc := 11) dX9_wordAt_11 (c := r1 = 0) (lc_eq _ _) (tgt := 18) rfl ⟨fun c => ?_, fun c => ?_⟩
  · have h := h.1 c
    refine xw_iconst hf (pc := 18) dX9_wordAt_18 (v := 0) (by decide) ?_
    refine xw_callV hf (pc := 19) (nA := 1) (Xr := [(a1, .inl (gJ (xg x), 60, .inr (.inl v6))), (a2, .inl (gI (xg x), 27, .inl v7))]) (rest := []) (T := TX9) (c_X9_isGood (xl x) (xg x) a0 a1 a3 a4 a5 a6 a7 a8 a9 a10 a2 a11 a12 a13 v0 v1 v2 v3 v4 v5 0 h) gX9_wordAt_X9_isGood (by rfl) rfl rfl (by decide +kernel) ⟨⟨(Nat.le_of_ble_eq_true rfl), (Nat.le_of_ble_eq_true rfl)⟩, (Nat.le_of_ble_eq_true rfl), (Nat.le_of_ble_eq_true rfl)⟩ (Nat.le_of_ble_eq_true rfl) rfl rfl (sb_of [0, 1, 2] rfl rfl) rfl dX9_wordAt_19 (fun v X1 hp => ?_)
    obtain ⟨r2, w3, rfl, rfl, h⟩ := hp
    refine xw_X (sb_of [0, 1, 2] rfl rfl) (show ww x (W_X9_wordAt (xg x) a0 a1 a2 a3 a4 a5 a6 a7 a8 a9 a10 a11 a12 a13 w3 v1 v2 v3 v4 v5 v6 v7) [(2, .long r1), (0, .ref a0), (1, .int p1)] 0 0 22 [.int r2] from ?_)
    refine xw_if_eq hf (pc := 22) dX9_wordAt_22 (c := r2 = 0) Iff.rfl (tgt := 29) rfl ⟨fun c => ?_, fun c => ?_⟩
    · have h := h.1 c
      refine xw_lconst hf (pc := 29) dX9_wordAt_29 (v := 0) (by decide) ?_
      exact xw_lret hf (pc := 30) dX9_wordAt_30 hr (Nat.le_of_ble_eq_true rfl) (Nat.le_of_ble_eq_true rfl) ⟨_, _, rfl, rfl, h⟩
    · have h := h.2 c
      refine xw_lload_n hf (pc := 25) dX9_wordAt_25 rfl 0 rfl ?_
      refine xw_goto hf (pc := 26) dX9_wordAt_26 (tgt := 30) rfl ?_
      exact xw_lret hf (pc := 30) dX9_wordAt_30 hr (Nat.le_of_ble_eq_true rfl) (Nat.le_of_ble_eq_true rfl) ⟨_, _, rfl, rfl, h⟩
  · have h := h.2 c
    refine xw_iconst hf (pc := 14) dX9_wordAt_14 (v := 1) (by decide) ?_
    refine xw_goto hf (pc := 15) dX9_wordAt_15 (tgt := 19) rfl ?_
    refine xw_callV hf (pc := 19) (nA := 1) (Xr := [(a1, .inl (gJ (xg x), 60, .inr (.inl v6))), (a2, .inl (gI (xg x), 27, .inl v7))]) (rest := []) (T := TX9) (c_X9_isGood (xl x) (xg x) a0 a1 a3 a4 a5 a6 a7 a8 a9 a10 a2 a11 a12 a13 v0 v1 v2 v3 v4 v5 1 h) gX9_wordAt_X9_isGood (by rfl) rfl rfl (by decide +kernel) ⟨⟨(Nat.le_of_ble_eq_true rfl), (Nat.le_of_ble_eq_true rfl)⟩, (Nat.le_of_ble_eq_true rfl), (Nat.le_of_ble_eq_true rfl)⟩ (Nat.le_of_ble_eq_true rfl) rfl rfl (sb_of [0, 1, 2] rfl rfl) rfl dX9_wordAt_19 (fun v X1 hp => ?_)
    obtain ⟨r4, w5, rfl, rfl, h⟩ := hp
    refine xw_X (sb_of [0, 1, 2] rfl rfl) (show ww x (W_X9_wordAt (xg x) a0 a1 a2 a3 a4 a5 a6 a7 a8 a9 a10 a11 a12 a13 w5 v1 v2 v3 v4 v5 v6 v7) [(2, .long r1), (0, .ref a0), (1, .int p1)] 0 0 22 [.int r4] from ?_)
    refine xw_if_eq hf (pc := 22) dX9_wordAt_22 (c := r4 = 0) Iff.rfl (tgt := 29) rfl ⟨fun c => ?_, fun c => ?_⟩
    · have h := h.1 c
      refine xw_lconst hf (pc := 29) dX9_wordAt_29 (v := 0) (by decide) ?_
      exact xw_lret hf (pc := 30) dX9_wordAt_30 hr (Nat.le_of_ble_eq_true rfl) (Nat.le_of_ble_eq_true rfl) ⟨_, _, rfl, rfl, h⟩
    · have h := h.2 c
      refine xw_lload_n hf (pc := 25) dX9_wordAt_25 rfl 0 rfl ?_
      refine xw_goto hf (pc := 26) dX9_wordAt_26 (tgt := 30) rfl ?_
      exact xw_lret hf (pc := 30) dX9_wordAt_30 hr (Nat.le_of_ble_eq_true rfl) (Nat.le_of_ble_eq_true rfl) ⟨_, _, rfl, rfl, h⟩
abbrev W_X9_hasWord (g : Gx) (a0 a1 a2 a3 a4 a5 a6 a7 a8 a9 a10 a11 a12 a13 : Nat) (v0 : Int32) (v1 : Int32) (v2 : Int32) (v3 : Int32) (v4 : Int32) (v5 : Int32) (v6 : Nat → Int64) : va_W := [(a0, .inr (9, [.int v0, .ref a1, .int v1, .ref a2, .ref a3, .ref a4, .ref a5, .ref a6, .ref a7, .ref a8, .int v2, .int v3, .ref a9, .int v4, .ref a10, .ref a11, .ref a12, .ref a13, .int v5])), (a1, .inl (gJ g, 60, .inr (.inl v6)))]
abbrev rm_X9_hasWord : Room := { frames := 2, cells := 0, slots := 0, locals := 48 }
set_option maxHeartbeats 4000000 in
set_option maxRecDepth 100000 in
theorem c_X9_hasWord (l : Launch) (g : Gx) (a0 a1 a2 a3 a4 a5 a6 a7 a8 a9 a10 a11 a12 a13 : Nat) (v0 : Int32) (v1 : Int32) (v2 : Int32) (v3 : Int32) (v4 : Int32) (v5 : Int32) (v6 : Nat → Int64) (p1 : Int64) {post : Int32 → Int32 → Prop} (h : P_X9_hasWord post p1 v0 v1 v2 v3 v4 v5 v6) : cm l g yX9_hasWord wsX9_hasWord (rm_X9_hasWord) [.ref a0, .long p1] (W_X9_hasWord g a0 a1 a2 a3 a4 a5 a6 a7 a8 a9 a10 a11 a12 a13 v0 v1 v2 v3 v4 v5 v6) (fun v X1 => ∃ (r : Int32) (uv0 : Int32), v = some (.int r) ∧ X1 = W_X9_hasWord g a0 a1 a2 a3 a4 a5 a6 a7 a8 a9 a10 a11 a12 a13 uv0 v1 v2 v3 v4 v5 v6 ∧ post r uv0) := by
  refine cm_of (cc := cX9_hasWord) (nL := 3) (ret := (some .boolean)) (by decide +kernel) rfl (Nat.le_of_ble_eq_true rfl) ?_
  intro x hf hl hg hn hi hr
  subst hl
  subst hg
  show ww x (W_X9_hasWord (xg x) a0 a1 a2 a3 a4 a5 a6 a7 a8 a9 a10 a11 a12 a13 v0 v1 v2 v3 v4 v5 v6) [(0, .ref a0), (1, .long p1)] 0 0 0 []
  unfold P_X9_hasWord at h
  refine xw_aload_n hf (pc := 0) dX9_hasWord_0 rfl 0 rfl ?_
  refine xw_lload_n hf (pc := 1) dX9_hasWord_1 rfl 1 rfl ?_
  refine xw_callS hf (pc := 2) (nA := 1) (Xr := W_X9_hasWord (xg x) a0 a1 a2 a3 a4 a5 a6 a7 a8 a9 a10 a11 a12 a13 v0 v1 v2 v3 v4 v5 v6) (rest := [.ref a0]) (c_X9_isWord (xl x) (xg x) p1 h) gX9_hasWord_X9_isWord (by rfl) rfl (by decide +kernel) ⟨⟨(Nat.le_of_ble_eq_true rfl), (Nat.le_of_ble_eq_true rfl)⟩, (Nat.le_of_ble_eq_true rfl), (Nat.le_of_ble_eq_true rfl)⟩ (Nat.le_of_ble_eq_true rfl) (sb_rf _) rfl dX9_hasWord_2 (fun v X1 hp => ?_)
  obtain ⟨r1, rfl, rfl, h⟩ := hp
  show ww x (W_X9_hasWord (xg x) a0 a1 a2 a3 a4 a5 a6 a7 a8 a9 a10 a11 a12 a13 v0 v1 v2 v3 v4 v5 v6) [(0, .ref a0), (1, .long p1)] 0 0 5 [.int r1, .ref a0]
  refine xw_callV hf (pc := 5) (nA := 1) (Xr := [(a1, .inl (gJ (xg x), 60, .inr (.inl v6)))]) (rest := []) (T := TX9) (c_X9_isGood (xl x) (xg x) a0 a1 a2 a3 a4 a5 a6 a7 a8 a9 a10 a11 a12 a13 v0 v1 v2 v3 v4 v5 r1 h) gX9_hasWord_X9_isGood (by rfl) rfl rfl (by decide +kernel) ⟨⟨(Nat.le_of_ble_eq_true rfl), (Nat.le_of_ble_eq_true rfl)⟩, (Nat.le_of_ble_eq_true rfl), (Nat.le_of_ble_eq_true rfl)⟩ (Nat.le_of_ble_eq_true rfl) rfl rfl (sb_of [0, 1] rfl rfl) rfl dX9_hasWord_5 (fun v X1 hp => ?_)
  obtain ⟨r2, w3, rfl, rfl, h⟩ := hp
  refine xw_X (sb_of [0, 1] rfl rfl) (show ww x (W_X9_hasWord (xg x) a0 a1 a2 a3 a4 a5 a6 a7 a8 a9 a10 a11 a12 a13 w3 v1 v2 v3 v4 v5 v6) [(0, .ref a0), (1, .long p1)] 0 0 8 [.int r2] from ?_)
  refine xw_if_eq hf (pc := 8) dX9_hasWord_8 (c := r2 = 0) Iff.rfl (tgt := 24) rfl ⟨fun c => ?_, fun c => ?_⟩
  · have h := h.1 c
    refine xw_iconst hf (pc := 24) dX9_hasWord_24 (v := 0) (by decide) ?_
    exact xw_zret hf (pc := 25) dX9_hasWord_25 hr (Nat.le_of_ble_eq_true rfl) (Nat.le_of_ble_eq_true rfl) rfl ⟨_, _, rfl, rfl, h⟩
  · have h := h.2 c
    refine xw_aload_n hf (pc := 11) dX9_hasWord_11 rfl 0 rfl ?_
    refine xw_lload_n hf (pc := 12) dX9_hasWord_12 rfl 1 rfl ?_
    refine xw_callV hf (pc := 13) (nA := 1) (Xr := []) (rest := []) (T := TX9) (c_X9_placeOf (xl x) (xg x) a0 a1 a2 a3 a4 a5 a6 a7 a8 a9 a10 a11 a12 a13 w3 v1 v2 v3 v4 v5 v6 p1 h) gX9_hasWord_X9_placeOf (by rfl) rfl rfl (by decide +kernel) ⟨⟨(Nat.le_of_ble_eq_true rfl), (Nat.le_of_ble_eq_true rfl)⟩, (Nat.le_of_ble_eq_true rfl), (Nat.le_of_ble_eq_true rfl)⟩ (Nat.le_of_ble_eq_true rfl) rfl rfl (sb_of [0, 1] rfl rfl) rfl dX9_hasWord_13 (fun v X1 hp => ?_)
    obtain ⟨r4, rfl, rfl, h⟩ := hp
    refine xw_X (sb_of [0, 1] rfl rfl) (show ww x (W_X9_hasWord (xg x) a0 a1 a2 a3 a4 a5 a6 a7 a8 a9 a10 a11 a12 a13 w3 v1 v2 v3 v4 v5 v6) [(0, .ref a0), (1, .long p1)] 0 0 16 [.int r4] from ?_)
    refine xw_iconst hf (pc := 16) dX9_hasWord_16 (v := (-1)) (by decide) ?_
    refine xw_icmp_eq hf (pc := 17) dX9_hasWord_17 (tgt := 24) rfl ⟨fun c => ?_, fun c => ?_⟩
    · have h := h.1 c
      refine xw_iconst hf (pc := 24) dX9_hasWord_24 (v := 0) (by decide) ?_
      exact xw_zret hf (pc := 25) dX9_hasWord_25 hr (Nat.le_of_ble_eq_true rfl) (Nat.le_of_ble_eq_true rfl) rfl ⟨_, _, rfl, rfl, h⟩
    · have h := h.2 c
      refine xw_iconst hf (pc := 20) dX9_hasWord_20 (v := 1) (by decide) ?_
      refine xw_goto hf (pc := 21) dX9_hasWord_21 (tgt := 25) rfl ?_
      exact xw_zret hf (pc := 25) dX9_hasWord_25 hr (Nat.le_of_ble_eq_true rfl) (Nat.le_of_ble_eq_true rfl) rfl ⟨_, _, rfl, rfl, h⟩
abbrev W_X9_count (g : Gx) (a0 a1 a2 a3 a4 a5 a6 a7 a8 a9 a10 a11 a12 a13 : Nat) (v0 : Int32) (v1 : Int32) (v2 : Int32) (v3 : Int32) (v4 : Int32) (v5 : Int32) (v6 : Nat → Int64) (v7 : Nat → Int32) (v8 : Nat → Int32) : va_W := [(a0, .inr (9, [.int v0, .ref a1, .int v1, .ref a4, .ref a5, .ref a6, .ref a7, .ref a8, .ref a9, .ref a10, .int v2, .int v3, .ref a2, .int v4, .ref a3, .ref a11, .ref a12, .ref a13, .int v5])), (a1, .inl (gJ g, 60, .inr (.inl v6))), (a2, .inl (gI g, 12, .inl v7)), (a3, .inl (gI g, 27, .inl v8))]
abbrev rm_X9_count : Room := { frames := 4, cells := 0, slots := 0, locals := 97 }
set_option maxHeartbeats 4000000 in
set_option maxRecDepth 100000 in
theorem c_X9_count (l : Launch) (g : Gx) (a0 a1 a2 a3 a4 a5 a6 a7 a8 a9 a10 a11 a12 a13 : Nat) (v0 : Int32) (v1 : Int32) (v2 : Int32) (v3 : Int32) (v4 : Int32) (v5 : Int32) (v6 : Nat → Int64) (v7 : Nat → Int32) (v8 : Nat → Int32) (p1 : Int64) (p3 : Int32) {post : Int32 → Int32 → Int32 → (Nat → Int32) → (Nat → Int32) → Prop} (h : P_X9_count post p1 p3 v0 v1 v2 v3 v4 v5 v6 v7 v8) : cm l g yX9_count wsX9_count (rm_X9_count) [.ref a0, .long p1, .int p3] (W_X9_count g a0 a1 a2 a3 a4 a5 a6 a7 a8 a9 a10 a11 a12 a13 v0 v1 v2 v3 v4 v5 v6 v7 v8) (fun v X1 => ∃ (r : Int32) (uv0 : Int32) (uv4 : Int32) (uv7 : Nat → Int32) (uv8 : Nat → Int32), v = some (.int r) ∧ X1 = W_X9_count g a0 a1 a2 a3 a4 a5 a6 a7 a8 a9 a10 a11 a12 a13 uv0 v1 v2 v3 uv4 v5 v6 uv7 uv8 ∧ post r uv0 uv4 uv7 uv8) := by
  refine cm_of (cc := cX9_count) (nL := 4) (ret := (some .int)) (by decide +kernel) rfl (Nat.le_of_ble_eq_true rfl) ?_
  intro x hf hl hg hn hi hr
  subst hl
  subst hg
  show ww x (W_X9_count (xg x) a0 a1 a2 a3 a4 a5 a6 a7 a8 a9 a10 a11 a12 a13 v0 v1 v2 v3 v4 v5 v6 v7 v8) [(0, .ref a0), (1, .long p1), (3, .int p3)] 0 0 0 []
  unfold P_X9_count at h
  refine xw_aload_n hf (pc := 0) dX9_count_0 rfl 0 rfl ?_
  refine xw_lload_n hf (pc := 1) dX9_count_1 rfl 1 rfl ?_
  refine xw_callS hf (pc := 2) (nA := 1) (Xr := W_X9_count (xg x) a0 a1 a2 a3 a4 a5 a6 a7 a8 a9 a10 a11 a12 a13 v0 v1 v2 v3 v4 v5 v6 v7 v8) (rest := [.ref a0]) (c_X9_isWord (xl x) (xg x) p1 h) gX9_count_X9_isWord (by rfl) rfl (by decide +kernel) ⟨⟨(Nat.le_of_ble_eq_true rfl), (Nat.le_of_ble_eq_true rfl)⟩, (Nat.le_of_ble_eq_true rfl), (Nat.le_of_ble_eq_true rfl)⟩ (Nat.le_of_ble_eq_true rfl) (sb_rf _) rfl dX9_count_2 (fun v X1 hp => ?_)
  obtain ⟨r1, rfl, rfl, h⟩ := hp
  show ww x (W_X9_count (xg x) a0 a1 a2 a3 a4 a5 a6 a7 a8 a9 a10 a11 a12 a13 v0 v1 v2 v3 v4 v5 v6 v7 v8) [(0, .ref a0), (1, .long p1), (3, .int p3)] 0 0 5 [.int r1, .ref a0]
  refine xw_callV hf (pc := 5) (nA := 1) (Xr := [(a1, .inl (gJ (xg x), 60, .inr (.inl v6))), (a2, .inl (gI (xg x), 12, .inl v7)), (a3, .inl (gI (xg x), 27, .inl v8))]) (rest := []) (T := TX9) (c_X9_isGood (xl x) (xg x) a0 a1 a4 a5 a6 a7 a8 a9 a10 a2 a3 a11 a12 a13 v0 v1 v2 v3 v4 v5 r1 h) gX9_count_X9_isGood (by rfl) rfl rfl (by decide +kernel) ⟨⟨(Nat.le_of_ble_eq_true rfl), (Nat.le_of_ble_eq_true rfl)⟩, (Nat.le_of_ble_eq_true rfl), (Nat.le_of_ble_eq_true rfl)⟩ (Nat.le_of_ble_eq_true rfl) rfl rfl (sb_of [0, 1, 2, 3] rfl rfl) rfl dX9_count_5 (fun v X1 hp => ?_)
  obtain ⟨r2, w3, rfl, rfl, h⟩ := hp
  refine xw_X (sb_of [0, 1, 2, 3] rfl rfl) (show ww x (W_X9_count (xg x) a0 a1 a2 a3 a4 a5 a6 a7 a8 a9 a10 a11 a12 a13 w3 v1 v2 v3 v4 v5 v6 v7 v8) [(0, .ref a0), (1, .long p1), (3, .int p3)] 0 0 8 [.int r2] from ?_)
  refine xw_if_ne hf (pc := 8) dX9_count_8 (c := r2 = 0) Iff.rfl (tgt := 13) rfl ⟨fun c => ?_, fun c => ?_⟩
  · have h := h.1 c
    refine xw_iconst hf (pc := 11) dX9_count_11 (v := 0) (by decide) ?_
    exact xw_iret hf (pc := 12) dX9_count_12 hr (Nat.le_of_ble_eq_true rfl) (Nat.le_of_ble_eq_true rfl) ⟨_, _, _, _, _, rfl, rfl, h⟩
  · have h := h.2 c
    refine xw_aload_n hf (pc := 13) dX9_count_13 rfl 0 rfl ?_
    refine xw_lload_n hf (pc := 14) dX9_count_14 rfl 1 rfl ?_
    refine xw_callV hf (pc := 15) (nA := 1) (Xr := [(a1, .inl (gJ (xg x), 60, .inr (.inl v6)))]) (rest := []) (T := TX9) (c_X9_spell (xl x) (xg x) a0 a2 a3 a1 a4 a5 a6 a7 a8 a9 a10 a11 a12 a13 w3 v1 v2 v3 v4 v5 v7 v8 p1 h) gX9_count_X9_spell (by rfl) rfl rfl (by decide +kernel) ⟨⟨(Nat.le_of_ble_eq_true rfl), (Nat.le_of_ble_eq_true rfl)⟩, (Nat.le_of_ble_eq_true rfl), (Nat.le_of_ble_eq_true rfl)⟩ (Nat.le_of_ble_eq_true rfl) rfl rfl (sb_of [0, 2, 3, 1] rfl rfl) rfl dX9_count_15 (fun v X1 hp => ?_)
    obtain ⟨w5, w6, w7, rfl, rfl, h⟩ := hp
    refine xw_X (sb_of [0, 3, 1, 2] rfl rfl) (show ww x (W_X9_count (xg x) a0 a1 a2 a3 a4 a5 a6 a7 a8 a9 a10 a11 a12 a13 w3 v1 v2 v3 w5 v5 v6 w6 w7) [(0, .ref a0), (1, .long p1), (3, .int p3)] 0 0 18 [] from ?_)
    refine xw_aload_n hf (pc := 18) dX9_count_18 rfl 0 rfl ?_
    refine xw_iload_n hf (pc := 19) dX9_count_19 rfl 2 rfl ?_
    refine xw_callV hf (pc := 20) (nA := 1) (Xr := [(a2, .inl (gI (xg x), 12, .inl w6))]) (rest := []) (T := TX9) (c_X9_countAsked (xl x) (xg x) a0 a1 a3 a4 a5 a6 a7 a8 a9 a10 a2 a11 a12 a13 w3 v1 v2 v3 w5 v5 v6 w7 p3 h) gX9_count_X9_countAsked (by rfl) rfl rfl (by decide +kernel) ⟨⟨(Nat.le_of_ble_eq_true rfl), (Nat.le_of_ble_eq_true rfl)⟩, (Nat.le_of_ble_eq_true rfl), (Nat.le_of_ble_eq_true rfl)⟩ (Nat.le_of_ble_eq_true rfl) rfl rfl (sb_of [0, 1, 3, 2] rfl rfl) rfl dX9_count_20 (fun v X1 hp => ?_)
    obtain ⟨r8, rfl, rfl, h⟩ := hp
    refine xw_X (sb_of [0, 1, 3, 2] rfl rfl) (show ww x (W_X9_count (xg x) a0 a1 a2 a3 a4 a5 a6 a7 a8 a9 a10 a11 a12 a13 w3 v1 v2 v3 w5 v5 v6 w6 w7) [(0, .ref a0), (1, .long p1), (3, .int p3)] 0 0 23 [.int r8] from ?_)
    exact xw_iret hf (pc := 23) dX9_count_23 hr (Nat.le_of_ble_eq_true rfl) (Nat.le_of_ble_eq_true rfl) ⟨_, _, _, _, _, rfl, rfl, h⟩
abbrev W_X9_find (g : Gx) (a0 a1 a2 a3 a4 a5 a6 a7 a8 a9 a10 a11 a12 a13 : Nat) (v0 : Int32) (v1 : Int32) (v2 : Int32) (v3 : Int32) (v4 : Int32) (v5 : Int32) (v6 : Nat → Int64) (v7 : Nat → Int32) (v8 : Nat → Int32) : va_W := [(a0, .inr (9, [.int v0, .ref a1, .int v1, .ref a4, .ref a5, .ref a6, .ref a7, .ref a8, .ref a9, .ref a10, .int v2, .int v3, .ref a2, .int v4, .ref a3, .ref a11, .ref a12, .ref a13, .int v5])), (a1, .inl (gJ g, 60, .inr (.inl v6))), (a2, .inl (gI g, 12, .inl v7)), (a3, .inl (gI g, 27, .inl v8))]
abbrev rm_X9_find : Room := { frames := 4, cells := 0, slots := 0, locals := 99 }
set_option maxHeartbeats 4000000 in
set_option maxRecDepth 100000 in
theorem c_X9_find (l : Launch) (g : Gx) (a0 a1 a2 a3 a4 a5 a6 a7 a8 a9 a10 a11 a12 a13 : Nat) (v0 : Int32) (v1 : Int32) (v2 : Int32) (v3 : Int32) (v4 : Int32) (v5 : Int32) (v6 : Nat → Int64) (v7 : Nat → Int32) (v8 : Nat → Int32) (p1 : Int64) (p3 : Int32) (p4 : Int32) {post : Int64 → Int32 → Int32 → (Nat → Int32) → (Nat → Int32) → Prop} (h : P_X9_find post p1 p3 p4 v0 v1 v2 v3 v4 v5 v6 v7 v8) : cm l g yX9_find wsX9_find (rm_X9_find) [.ref a0, .long p1, .int p3, .int p4] (W_X9_find g a0 a1 a2 a3 a4 a5 a6 a7 a8 a9 a10 a11 a12 a13 v0 v1 v2 v3 v4 v5 v6 v7 v8) (fun v X1 => ∃ (r : Int64) (uv0 : Int32) (uv4 : Int32) (uv7 : Nat → Int32) (uv8 : Nat → Int32), v = some (.long r) ∧ X1 = W_X9_find g a0 a1 a2 a3 a4 a5 a6 a7 a8 a9 a10 a11 a12 a13 uv0 v1 v2 v3 uv4 v5 v6 uv7 uv8 ∧ post r uv0 uv4 uv7 uv8) := by
  refine cm_of (cc := cX9_find) (nL := 7) (ret := (some .long)) (by decide +kernel) rfl (Nat.le_of_ble_eq_true rfl) ?_
  intro x hf hl hg hn hi hr
  subst hl
  subst hg
  show ww x (W_X9_find (xg x) a0 a1 a2 a3 a4 a5 a6 a7 a8 a9 a10 a11 a12 a13 v0 v1 v2 v3 v4 v5 v6 v7 v8) [(0, .ref a0), (1, .long p1), (3, .int p3), (4, .int p4)] 0 0 0 []
  unfold P_X9_find at h
  refine xw_aload_n hf (pc := 0) dX9_find_0 rfl 0 rfl ?_
  refine xw_lload_n hf (pc := 1) dX9_find_1 rfl 1 rfl ?_
  refine xw_callS hf (pc := 2) (nA := 1) (Xr := W_X9_find (xg x) a0 a1 a2 a3 a4 a5 a6 a7 a8 a9 a10 a11 a12 a13 v0 v1 v2 v3 v4 v5 v6 v7 v8) (rest := [.ref a0]) (c_X9_isWord (xl x) (xg x) p1 h) gX9_find_X9_isWord (by rfl) rfl (by decide +kernel) ⟨⟨(Nat.le_of_ble_eq_true rfl), (Nat.le_of_ble_eq_true rfl)⟩, (Nat.le_of_ble_eq_true rfl), (Nat.le_of_ble_eq_true rfl)⟩ (Nat.le_of_ble_eq_true rfl) (sb_rf _) rfl dX9_find_2 (fun v X1 hp => ?_)
  obtain ⟨r1, rfl, rfl, h⟩ := hp
  show ww x (W_X9_find (xg x) a0 a1 a2 a3 a4 a5 a6 a7 a8 a9 a10 a11 a12 a13 v0 v1 v2 v3 v4 v5 v6 v7 v8) [(0, .ref a0), (1, .long p1), (3, .int p3), (4, .int p4)] 0 0 5 [.int r1, .ref a0]
  refine xw_callV hf (pc := 5) (nA := 1) (Xr := [(a1, .inl (gJ (xg x), 60, .inr (.inl v6))), (a2, .inl (gI (xg x), 12, .inl v7)), (a3, .inl (gI (xg x), 27, .inl v8))]) (rest := []) (T := TX9) (c_X9_isGood (xl x) (xg x) a0 a1 a4 a5 a6 a7 a8 a9 a10 a2 a3 a11 a12 a13 v0 v1 v2 v3 v4 v5 r1 h) gX9_find_X9_isGood (by rfl) rfl rfl (by decide +kernel) ⟨⟨(Nat.le_of_ble_eq_true rfl), (Nat.le_of_ble_eq_true rfl)⟩, (Nat.le_of_ble_eq_true rfl), (Nat.le_of_ble_eq_true rfl)⟩ (Nat.le_of_ble_eq_true rfl) rfl rfl (sb_of [0, 1, 2, 3] rfl rfl) rfl dX9_find_5 (fun v X1 hp => ?_)
  obtain ⟨r2, w3, rfl, rfl, h⟩ := hp
  refine xw_X (sb_of [0, 1, 2, 3] rfl rfl) (show ww x (W_X9_find (xg x) a0 a1 a2 a3 a4 a5 a6 a7 a8 a9 a10 a11 a12 a13 w3 v1 v2 v3 v4 v5 v6 v7 v8) [(0, .ref a0), (1, .long p1), (3, .int p3), (4, .int p4)] 0 0 8 [.int r2] from ?_)
  refine xw_if_ne hf (pc := 8) dX9_find_8 (c := r2 = 0) Iff.rfl (tgt := 13) rfl ⟨fun c => ?_, fun c => ?_⟩
  · have h := h.1 c
    refine xw_lconst hf (pc := 11) dX9_find_11 (v := 0) (by decide) ?_
    exact xw_lret hf (pc := 12) dX9_find_12 hr (Nat.le_of_ble_eq_true rfl) (Nat.le_of_ble_eq_true rfl) ⟨_, _, _, _, _, rfl, rfl, h⟩
  · have h := h.2 c
    refine xw_aload_n hf (pc := 13) dX9_find_13 rfl 0 rfl ?_
    refine xw_lload_n hf (pc := 14) dX9_find_14 rfl 1 rfl ?_
    refine xw_callV hf (pc := 15) (nA := 1) (Xr := [(a1, .inl (gJ (xg x), 60, .inr (.inl v6)))]) (rest := []) (T := TX9) (c_X9_spell (xl x) (xg x) a0 a2 a3 a1 a4 a5 a6 a7 a8 a9 a10 a11 a12 a13 w3 v1 v2 v3 v4 v5 v7 v8 p1 h) gX9_find_X9_spell (by rfl) rfl rfl (by decide +kernel) ⟨⟨(Nat.le_of_ble_eq_true rfl), (Nat.le_of_ble_eq_true rfl)⟩, (Nat.le_of_ble_eq_true rfl), (Nat.le_of_ble_eq_true rfl)⟩ (Nat.le_of_ble_eq_true rfl) rfl rfl (sb_of [0, 2, 3, 1] rfl rfl) rfl dX9_find_15 (fun v X1 hp => ?_)
    obtain ⟨w5, w6, w7, rfl, rfl, h⟩ := hp
    refine xw_X (sb_of [0, 3, 1, 2] rfl rfl) (show ww x (W_X9_find (xg x) a0 a1 a2 a3 a4 a5 a6 a7 a8 a9 a10 a11 a12 a13 w3 v1 v2 v3 w5 v5 v6 w6 w7) [(0, .ref a0), (1, .long p1), (3, .int p3), (4, .int p4)] 0 0 18 [] from ?_)
    refine xw_aload_n hf (pc := 18) dX9_find_18 rfl 0 rfl ?_
    refine xw_iload_n hf (pc := 19) dX9_find_19 rfl 2 rfl ?_
    refine xw_iload hf (pc := 20) dX9_find_20 3 rfl ?_
    refine xw_callV hf (pc := 22) (nA := 2) (Xr := [(a2, .inl (gI (xg x), 12, .inl w6))]) (rest := []) (T := TX9) (c_X9_asked (xl x) (xg x) a0 a1 a3 a4 a5 a6 a7 a8 a9 a10 a2 a11 a12 a13 w3 v1 v2 v3 w5 v5 v6 w7 p3 p4 h) gX9_find_X9_asked (by rfl) rfl rfl (by decide +kernel) ⟨⟨(Nat.le_of_ble_eq_true rfl), (Nat.le_of_ble_eq_true rfl)⟩, (Nat.le_of_ble_eq_true rfl), (Nat.le_of_ble_eq_true rfl)⟩ (Nat.le_of_ble_eq_true rfl) rfl rfl (sb_of [0, 1, 3, 2] rfl rfl) rfl dX9_find_22 (fun v X1 hp => ?_)
    obtain ⟨r8, rfl, rfl, h⟩ := hp
    refine xw_X (sb_of [0, 1, 3, 2] rfl rfl) (show ww x (W_X9_find (xg x) a0 a1 a2 a3 a4 a5 a6 a7 a8 a9 a10 a11 a12 a13 w3 v1 v2 v3 w5 v5 v6 w6 w7) [(0, .ref a0), (1, .long p1), (3, .int p3), (4, .int p4)] 0 0 25 [.long r8] from ?_)
    refine xw_lstore hf (pc := 25) dX9_find_25 [(5, .long r8), (0, .ref a0), (1, .long p1), (3, .int p3), (4, .int p4)] hn (by decide) rfl ?_
    refine xw_lload hf (pc := 27) dX9_find_27 0 rfl ?_
    refine xw_lconst hf (pc := 29) dX9_find_29 (v := 0) (by decide) ?_
    refine xw_lcmp hf (pc := 30) dX9_find_30 ?_
    refine xw_if_ne hf (pc := 31) dX9_find_31 (c := r8 = 0) (lc_eq _ _) (tgt := 43) rfl ⟨fun c => ?_, fun c => ?_⟩
    · have h := h.1 c
      refine xw_aload_n hf (pc := 34) dX9_find_34 rfl 1 rfl ?_
      refine xw_iconst hf (pc := 35) dX9_find_35 (v := 2) (by decide) ?_
      refine xw_callV hf (pc := 36) (nA := 1) (Xr := [(a1, .inl (gJ (xg x), 60, .inr (.inl v6))), (a2, .inl (gI (xg x), 12, .inl w6)), (a3, .inl (gI (xg x), 27, .inl w7))]) (rest := []) (T := TX9) (c_X9_fail (xl x) (xg x) a0 a1 a4 a5 a6 a7 a8 a9 a10 a2 a3 a11 a12 a13 w3 v1 v2 v3 w5 v5 2 h) gX9_find_X9_fail (by rfl) rfl rfl (by decide +kernel) ⟨⟨(Nat.le_of_ble_eq_true rfl), (Nat.le_of_ble_eq_true rfl)⟩, (Nat.le_of_ble_eq_true rfl), (Nat.le_of_ble_eq_true rfl)⟩ (Nat.le_of_ble_eq_true rfl) rfl rfl (sb_of [0, 1, 2, 3] rfl rfl) rfl dX9_find_36 (fun v X1 hp => ?_)
      obtain ⟨r9, w10, rfl, rfl, h⟩ := hp
      refine xw_X (sb_of [0, 1, 2, 3] rfl rfl) (show ww x (W_X9_find (xg x) a0 a1 a2 a3 a4 a5 a6 a7 a8 a9 a10 a11 a12 a13 w10 v1 v2 v3 w5 v5 v6 w6 w7) [(5, .long r8), (0, .ref a0), (1, .long p1), (3, .int p3), (4, .int p4)] 0 0 39 [.int r9] from ?_)
      refine xw_i2l hf (pc := 39) dX9_find_39 ?_
      refine xw_goto hf (pc := 40) dX9_find_40 (tgt := 45) rfl ?_
      exact xw_lret hf (pc := 45) dX9_find_45 hr (Nat.le_of_ble_eq_true rfl) (Nat.le_of_ble_eq_true rfl) ⟨_, _, _, _, _, rfl, rfl, h⟩
    · have h := h.2 c
      refine xw_lload hf (pc := 43) dX9_find_43 0 rfl ?_
      exact xw_lret hf (pc := 45) dX9_find_45 hr (Nat.le_of_ble_eq_true rfl) (Nat.le_of_ble_eq_true rfl) ⟨_, _, _, _, _, rfl, rfl, h⟩
abbrev W_X9_anagramCount (g : Gx) (a0 a1 a2 a3 a4 a5 a6 a7 a8 a9 a10 a11 a12 a13 : Nat) (v0 : Int32) (v1 : Int32) (v2 : Int32) (v3 : Int32) (v4 : Int32) (v5 : Int32) (v6 : Nat → Int64) (v7 : Nat → Int32) (v8 : Nat → Int32) : va_W := [(a0, .inr (9, [.int v0, .ref a1, .int v1, .ref a4, .ref a5, .ref a6, .ref a7, .ref a8, .ref a9, .ref a10, .int v2, .int v3, .ref a2, .int v4, .ref a3, .ref a11, .ref a12, .ref a13, .int v5])), (a1, .inl (gJ g, 60, .inr (.inl v6))), (a2, .inl (gI g, 12, .inl v7)), (a3, .inl (gI g, 27, .inl v8))]
abbrev rm_X9_anagramCount : Room := { frames := 5, cells := 0, slots := 0, locals := 120 }
set_option maxHeartbeats 4000000 in
set_option maxRecDepth 100000 in
theorem c_X9_anagramCount (l : Launch) (g : Gx) (a0 a1 a2 a3 a4 a5 a6 a7 a8 a9 a10 a11 a12 a13 : Nat) (v0 : Int32) (v1 : Int32) (v2 : Int32) (v3 : Int32) (v4 : Int32) (v5 : Int32) (v6 : Nat → Int64) (v7 : Nat → Int32) (v8 : Nat → Int32) (p1 : Int64) {post : Int32 → Int32 → Int32 → (Nat → Int32) → (Nat → Int32) → Prop} (h : P_X9_anagramCount post p1 v0 v1 v2 v3 v4 v5 v6 v7 v8) : cm l g yX9_anagramCount wsX9_anagramCount (rm_X9_anagramCount) [.ref a0, .long p1] (W_X9_anagramCount g a0 a1 a2 a3 a4 a5 a6 a7 a8 a9 a10 a11 a12 a13 v0 v1 v2 v3 v4 v5 v6 v7 v8) (fun v X1 => ∃ (r : Int32) (uv0 : Int32) (uv4 : Int32) (uv7 : Nat → Int32) (uv8 : Nat → Int32), v = some (.int r) ∧ X1 = W_X9_anagramCount g a0 a1 a2 a3 a4 a5 a6 a7 a8 a9 a10 a11 a12 a13 uv0 v1 v2 v3 uv4 v5 v6 uv7 uv8 ∧ post r uv0 uv4 uv7 uv8) := by
  refine cm_of (cc := cX9_anagramCount) (nL := 3) (ret := (some .int)) (by decide +kernel) rfl (Nat.le_of_ble_eq_true rfl) ?_
  intro x hf hl hg hn hi hr
  subst hl
  subst hg
  show ww x (W_X9_anagramCount (xg x) a0 a1 a2 a3 a4 a5 a6 a7 a8 a9 a10 a11 a12 a13 v0 v1 v2 v3 v4 v5 v6 v7 v8) [(0, .ref a0), (1, .long p1)] 0 0 0 []
  unfold P_X9_anagramCount at h
  refine xw_aload_n hf (pc := 0) dX9_anagramCount_0 rfl 0 rfl ?_
  refine xw_lload_n hf (pc := 1) dX9_anagramCount_1 rfl 1 rfl ?_
  refine xw_iconst hf (pc := 2) dX9_anagramCount_2 (v := 2) (by decide) ?_
  refine xw_callV hf (pc := 3) (nA := 2) (Xr := []) (rest := []) (T := TX9) (c_X9_count (xl x) (xg x) a0 a1 a2 a3 a4 a5 a6 a7 a8 a9 a10 a11 a12 a13 v0 v1 v2 v3 v4 v5 v6 v7 v8 p1 2 h) gX9_anagramCount_X9_count (by rfl) rfl rfl (by decide +kernel) ⟨⟨(Nat.le_of_ble_eq_true rfl), (Nat.le_of_ble_eq_true rfl)⟩, (Nat.le_of_ble_eq_true rfl), (Nat.le_of_ble_eq_true rfl)⟩ (Nat.le_of_ble_eq_true rfl) rfl rfl (sb_of [0, 1, 2, 3] rfl rfl) rfl dX9_anagramCount_3 (fun v X1 hp => ?_)
  obtain ⟨r1, w2, w3, w4, w5, rfl, rfl, h⟩ := hp
  refine xw_X (sb_of [0, 1, 2, 3] rfl rfl) (show ww x (W_X9_anagramCount (xg x) a0 a1 a2 a3 a4 a5 a6 a7 a8 a9 a10 a11 a12 a13 w2 v1 v2 v3 w3 v5 v6 w4 w5) [(0, .ref a0), (1, .long p1)] 0 0 6 [.int r1] from ?_)
  exact xw_iret hf (pc := 6) dX9_anagramCount_6 hr (Nat.le_of_ble_eq_true rfl) (Nat.le_of_ble_eq_true rfl) ⟨_, _, _, _, _, rfl, rfl, h⟩
abbrev W_X9_anagramAt (g : Gx) (a0 a1 a2 a3 a4 a5 a6 a7 a8 a9 a10 a11 a12 a13 : Nat) (v0 : Int32) (v1 : Int32) (v2 : Int32) (v3 : Int32) (v4 : Int32) (v5 : Int32) (v6 : Nat → Int64) (v7 : Nat → Int32) (v8 : Nat → Int32) : va_W := [(a0, .inr (9, [.int v0, .ref a1, .int v1, .ref a4, .ref a5, .ref a6, .ref a7, .ref a8, .ref a9, .ref a10, .int v2, .int v3, .ref a2, .int v4, .ref a3, .ref a11, .ref a12, .ref a13, .int v5])), (a1, .inl (gJ g, 60, .inr (.inl v6))), (a2, .inl (gI g, 12, .inl v7)), (a3, .inl (gI g, 27, .inl v8))]
abbrev rm_X9_anagramAt : Room := { frames := 5, cells := 0, slots := 0, locals := 125 }
set_option maxHeartbeats 4000000 in
set_option maxRecDepth 100000 in
theorem c_X9_anagramAt (l : Launch) (g : Gx) (a0 a1 a2 a3 a4 a5 a6 a7 a8 a9 a10 a11 a12 a13 : Nat) (v0 : Int32) (v1 : Int32) (v2 : Int32) (v3 : Int32) (v4 : Int32) (v5 : Int32) (v6 : Nat → Int64) (v7 : Nat → Int32) (v8 : Nat → Int32) (p1 : Int64) (p3 : Int32) {post : Int64 → Int32 → Int32 → (Nat → Int32) → (Nat → Int32) → Prop} (h : P_X9_anagramAt post p1 p3 v0 v1 v2 v3 v4 v5 v6 v7 v8) : cm l g yX9_anagramAt wsX9_anagramAt (rm_X9_anagramAt) [.ref a0, .long p1, .int p3] (W_X9_anagramAt g a0 a1 a2 a3 a4 a5 a6 a7 a8 a9 a10 a11 a12 a13 v0 v1 v2 v3 v4 v5 v6 v7 v8) (fun v X1 => ∃ (r : Int64) (uv0 : Int32) (uv4 : Int32) (uv7 : Nat → Int32) (uv8 : Nat → Int32), v = some (.long r) ∧ X1 = W_X9_anagramAt g a0 a1 a2 a3 a4 a5 a6 a7 a8 a9 a10 a11 a12 a13 uv0 v1 v2 v3 uv4 v5 v6 uv7 uv8 ∧ post r uv0 uv4 uv7 uv8) := by
  refine cm_of (cc := cX9_anagramAt) (nL := 4) (ret := (some .long)) (by decide +kernel) rfl (Nat.le_of_ble_eq_true rfl) ?_
  intro x hf hl hg hn hi hr
  subst hl
  subst hg
  show ww x (W_X9_anagramAt (xg x) a0 a1 a2 a3 a4 a5 a6 a7 a8 a9 a10 a11 a12 a13 v0 v1 v2 v3 v4 v5 v6 v7 v8) [(0, .ref a0), (1, .long p1), (3, .int p3)] 0 0 0 []
  unfold P_X9_anagramAt at h
  refine xw_aload_n hf (pc := 0) dX9_anagramAt_0 rfl 0 rfl ?_
  refine xw_lload_n hf (pc := 1) dX9_anagramAt_1 rfl 1 rfl ?_
  refine xw_iconst hf (pc := 2) dX9_anagramAt_2 (v := 2) (by decide) ?_
  refine xw_iload_n hf (pc := 3) dX9_anagramAt_3 rfl 2 rfl ?_
  refine xw_callV hf (pc := 4) (nA := 3) (Xr := []) (rest := []) (T := TX9) (c_X9_find (xl x) (xg x) a0 a1 a2 a3 a4 a5 a6 a7 a8 a9 a10 a11 a12 a13 v0 v1 v2 v3 v4 v5 v6 v7 v8 p1 2 p3 h) gX9_anagramAt_X9_find (by rfl) rfl rfl (by decide +kernel) ⟨⟨(Nat.le_of_ble_eq_true rfl), (Nat.le_of_ble_eq_true rfl)⟩, (Nat.le_of_ble_eq_true rfl), (Nat.le_of_ble_eq_true rfl)⟩ (Nat.le_of_ble_eq_true rfl) rfl rfl (sb_of [0, 1, 2, 3] rfl rfl) rfl dX9_anagramAt_4 (fun v X1 hp => ?_)
  obtain ⟨r1, w2, w3, w4, w5, rfl, rfl, h⟩ := hp
  refine xw_X (sb_of [0, 1, 2, 3] rfl rfl) (show ww x (W_X9_anagramAt (xg x) a0 a1 a2 a3 a4 a5 a6 a7 a8 a9 a10 a11 a12 a13 w2 v1 v2 v3 w3 v5 v6 w4 w5) [(0, .ref a0), (1, .long p1), (3, .int p3)] 0 0 7 [.long r1] from ?_)
  exact xw_lret hf (pc := 7) dX9_anagramAt_7 hr (Nat.le_of_ble_eq_true rfl) (Nat.le_of_ble_eq_true rfl) ⟨_, _, _, _, _, rfl, rfl, h⟩
abbrev W_X9_largestAnagramGroup (g : Gx) (a0 a1 a2 a3 a4 a5 a6 a7 a8 a9 a10 a11 a12 a13 : Nat) (v0 : Int32) (v1 : Int32) (v2 : Int32) (v3 : Int32) (v4 : Int32) (v5 : Int32) (v6 : Nat → Int64) (v7 : Nat → Int32) (v8 : Nat → Int32) : va_W := [(a0, .inr (9, [.int v0, .ref a1, .int v1, .ref a4, .ref a5, .ref a6, .ref a7, .ref a8, .ref a9, .ref a10, .int v2, .int v3, .ref a2, .int v4, .ref a3, .ref a11, .ref a12, .ref a13, .int v5])), (a1, .inl (gJ g, 60, .inr (.inl v6))), (a2, .inl (gI g, 12, .inl v7)), (a3, .inl (gI g, 27, .inl v8))]
abbrev rm_X9_largestAnagramGroup : Room := { frames := 4, cells := 0, slots := 0, locals := 97 }
theorem mw_X9_largestAnagramGroup_0 : (Cond.fieldLink RX9 55 "AnagramButcherModel" "thrown" "I" : Cond) ∈ wsX9_largestAnagramGroup := (List.mem_cons_of_mem _ (List.mem_append_left _ (List.mem_append_left _ (List.mem_of_getElem? (l := wsX9_largestAnagramGroup_r1) (i := 0) rfl))))
theorem mw_X9_largestAnagramGroup_1 : (Cond.fieldLink RX9 76 "AnagramButcherModel" "wordCount" "I" : Cond) ∈ wsX9_largestAnagramGroup := (List.mem_cons_of_mem _ (List.mem_append_left _ (List.mem_append_left _ (List.mem_of_getElem? (l := wsX9_largestAnagramGroup_r1) (i := 1) rfl))))
theorem mw_X9_largestAnagramGroup_2 : (Cond.fieldLink RX9 7 "AnagramButcherModel" "words" "[J" : Cond) ∈ wsX9_largestAnagramGroup := (List.mem_cons_of_mem _ (List.mem_append_left _ (List.mem_append_left _ (List.mem_of_getElem? (l := wsX9_largestAnagramGroup_r1) (i := 2) rfl))))
theorem mw_X9_largestAnagramGroup_3 : (Cond.methodLink RX9 123 Lib.Math.max.name : Cond) ∈ wsX9_largestAnagramGroup := (List.mem_cons_of_mem _ (List.mem_append_left _ (List.mem_append_left _ (List.mem_of_getElem? (l := wsX9_largestAnagramGroup_r1) (i := 3) rfl))))
theorem mw_X9_largestAnagramGroup_4 : (Cond.static Lib.Math.max.name : Cond) ∈ wsX9_largestAnagramGroup := (List.mem_cons_of_mem _ (List.mem_append_left _ (List.mem_append_left _ (List.mem_of_getElem? (l := wsX9_largestAnagramGroup_r1) (i := 4) rfl))))
theorem mw_X9_largestAnagramGroup_5 : (Cond.initialized "java/lang/Math" : Cond) ∈ wsX9_largestAnagramGroup := (List.mem_cons_of_mem _ (List.mem_append_left _ (List.mem_append_left _ (List.mem_of_getElem? (l := wsX9_largestAnagramGroup_r1) (i := 5) rfl))))
theorem mw_X9_largestAnagramGroup_6 : (Cond.code Lib.Math.max.name Lib.Math.max.code 2 (some .int) : Cond) ∈ wsX9_largestAnagramGroup := (List.mem_cons_of_mem _ (List.mem_append_left _ (List.mem_append_left _ (List.mem_of_getElem? (l := wsX9_largestAnagramGroup_r1) (i := 6) rfl))))
theorem mi_X9_largestAnagramGroup_X9 : ∀ w ∈ wsX90, w ∈ wsX9_largestAnagramGroup := fun _ h => (List.mem_cons_of_mem _ (List.mem_append_right _ h))
set_option maxHeartbeats 4000000 in
set_option maxRecDepth 100000 in
theorem w_X9_largestAnagramGroup_L9 {x : Cx} (hf : fx x (rm_X9_largestAnagramGroup) RX9 cX9_largestAnagramGroup wsX9_largestAnagramGroup) (hn : xn x = 3) {k0 n0 : Nat} (hk : k0 ≤ (rm_X9_largestAnagramGroup).cells ∧ n0 ≤ (rm_X9_largestAnagramGroup).slots) (a0 a1 a2 a3 a4 a5 a6 a7 a8 a9 a10 a11 a12 a13 : Nat) (v0 : Int32) (v1 : Int32) (v2 : Int32) (v3 : Int32) (v5 : Int32) (v6 : Nat → Int64) {K43 : Int32 → Int32 → (Nat → Int32) → (Nat → Int32) → Prop}
    (n : Nat) (z1 : Int32) (z2 : Int32) (v4 : Int32) (v7 : Nat → Int32) (v8 : Nat → Int32) (h : P_X9_largestAnagramGroup_L9 v0 v1 v2 v3 v5 v6 K43 n z1 z2 v4 v7 v8)
    (hK43 : ∀ (y1 : Int32), ∀ (uv4 : Int32), ∀ (uv7 : Nat → Int32), ∀ (uv8 : Nat → Int32), K43 y1 uv4 uv7 uv8 → ww x (W_X9_largestAnagramGroup (xg x) a0 a1 a2 a3 a4 a5 a6 a7 a8 a9 a10 a11 a12 a13 v0 v1 v2 v3 uv4 v5 v6 uv7 uv8) [(1, .int y1)] k0 n0 43 []) :
    ww x (W_X9_largestAnagramGroup (xg x) a0 a1 a2 a3 a4 a5 a6 a7 a8 a9 a10 a11 a12 a13 v0 v1 v2 v3 v4 v5 v6 v7 v8) [(0, .ref a0), (1, .int z1), (2, .int z2)] k0 n0 9 [] := by
  induction n generalizing z1 z2 v4 v7 v8 with
  | zero => exact h.elim
  | succ n ih =>
    unfold P_X9_largestAnagramGroup_L9 at h
    refine xw_iload_n hf (pc := 9) dX9_largestAnagramGroup_9 rfl 2 rfl ?_
    refine xw_aload_n hf (pc := 10) dX9_largestAnagramGroup_10 rfl 0 rfl ?_
    refine xw_get hf (pc := 11) dX9_largestAnagramGroup_11 (T := TX9) mi_X9_largestAnagramGroup_X9 rfl 0 rfl 2 (by decide) rfl mw_X9_largestAnagramGroup_1 rfl ?_
    refine xw_icmp_ge hf (pc := 14) dX9_largestAnagramGroup_14 (tgt := 43) rfl ⟨fun c => ?_, fun c => ?_⟩
    · have h := h.1 c
      refine xw_L [1] rfl ?_
      exact hK43 _ _ _ _ h
    · have h := h.2 c
      refine xw_aload_n hf (pc := 17) dX9_largestAnagramGroup_17 rfl 0 rfl ?_
      refine xw_aload_n hf (pc := 18) dX9_largestAnagramGroup_18 rfl 0 rfl ?_
      refine xw_get hf (pc := 19) dX9_largestAnagramGroup_19 (T := TX9) mi_X9_largestAnagramGroup_X9 rfl 0 rfl 1 (by decide) rfl mw_X9_largestAnagramGroup_2 rfl ?_
      refine xw_iload_n hf (pc := 22) dX9_largestAnagramGroup_22 rfl 2 rfl ?_
      refine xw_lald hf (pc := 23) dX9_largestAnagramGroup_23 1 rfl h.1 ?_
      have h := h.2
      refine xw_callV hf (pc := 24) (nA := 1) (Xr := [(a1, .inl (gJ (xg x), 60, .inr (.inl v6)))]) (rest := []) (T := TX9) (c_X9_spell (xl x) (xg x) a0 a2 a3 a1 a4 a5 a6 a7 a8 a9 a10 a11 a12 a13 v0 v1 v2 v3 v4 v5 v7 v8 (v6 z2.toNatClampNeg) h) gX9_largestAnagramGroup_X9_spell (by rfl) rfl rfl (by decide +kernel) ⟨⟨(Nat.le_of_ble_eq_true rfl), (Nat.le_of_ble_eq_true rfl)⟩, hk.1, hk.2⟩ (Nat.le_of_ble_eq_true rfl) rfl rfl (sb_of [0, 2, 3, 1] rfl rfl) rfl dX9_largestAnagramGroup_24 (fun v X1 hp => ?_)
      obtain ⟨w2, w3, w4, rfl, rfl, h⟩ := hp
      refine xw_X (sb_of [0, 3, 1, 2] rfl rfl) (show ww x (W_X9_largestAnagramGroup (xg x) a0 a1 a2 a3 a4 a5 a6 a7 a8 a9 a10 a11 a12 a13 v0 v1 v2 v3 w2 v5 v6 w3 w4) [(0, .ref a0), (1, .int z1), (2, .int z2)] k0 n0 27 [] from ?_)
      refine xw_iload_n hf (pc := 27) dX9_largestAnagramGroup_27 rfl 1 rfl ?_
      refine xw_aload_n hf (pc := 28) dX9_largestAnagramGroup_28 rfl 0 rfl ?_
      refine xw_iconst hf (pc := 29) dX9_largestAnagramGroup_29 (v := 2) (by decide) ?_
      refine xw_callV hf (pc := 30) (nA := 1) (Xr := [(a2, .inl (gI (xg x), 12, .inl w3))]) (rest := [.int z1]) (T := TX9) (c_X9_countAsked (xl x) (xg x) a0 a1 a3 a4 a5 a6 a7 a8 a9 a10 a2 a11 a12 a13 v0 v1 v2 v3 w2 v5 v6 w4 2 h) gX9_largestAnagramGroup_X9_countAsked (by rfl) rfl rfl (by decide +kernel) ⟨⟨(Nat.le_of_ble_eq_true rfl), (Nat.le_of_ble_eq_true rfl)⟩, hk.1, hk.2⟩ (Nat.le_of_ble_eq_true rfl) rfl rfl (sb_of [0, 1, 3, 2] rfl rfl) rfl dX9_largestAnagramGroup_30 (fun v X1 hp => ?_)
      obtain ⟨r5, rfl, rfl, h⟩ := hp
      refine xw_X (sb_of [0, 1, 3, 2] rfl rfl) (show ww x (W_X9_largestAnagramGroup (xg x) a0 a1 a2 a3 a4 a5 a6 a7 a8 a9 a10 a11 a12 a13 v0 v1 v2 v3 w2 v5 v6 w3 w4) [(0, .ref a0), (1, .int z1), (2, .int z2)] k0 n0 33 [.int r5, .int z1] from ?_)
      refine xw_max hf mw_X9_largestAnagramGroup_3 mw_X9_largestAnagramGroup_4 mw_X9_largestAnagramGroup_5 mw_X9_largestAnagramGroup_6 ⟨⟨(Nat.le_of_ble_eq_true rfl), (Nat.le_of_ble_eq_true rfl)⟩, hk.1, hk.2⟩ (Nat.le_of_ble_eq_true rfl) dX9_largestAnagramGroup_33 ?_
      refine xw_topi (fun y6 ey6 => ?_)
      have h := h y6 ey6
      refine xw_istore_n hf (pc := 36) dX9_largestAnagramGroup_36 rfl [(1, .int y6), (0, .ref a0), (2, .int z2)] hn (by decide) rfl ?_
      refine xw_iinc hf (pc := 37) dX9_largestAnagramGroup_37 (v := z2 + 1) 2 rfl rfl [(2, .int (z2 + 1)), (1, .int y6), (0, .ref a0)] hn (by decide) rfl ?_
      refine xw_goto hf (pc := 40) dX9_largestAnagramGroup_40 (tgt := 9) rfl ?_
      refine xw_L [2, 1, 0] rfl ?_
      exact ih _ _ _ _ _ h
set_option maxHeartbeats 4000000 in
set_option maxRecDepth 100000 in
theorem c_X9_largestAnagramGroup (l : Launch) (g : Gx) (a0 a1 a2 a3 a4 a5 a6 a7 a8 a9 a10 a11 a12 a13 : Nat) (v0 : Int32) (v1 : Int32) (v2 : Int32) (v3 : Int32) (v4 : Int32) (v5 : Int32) (v6 : Nat → Int64) (v7 : Nat → Int32) (v8 : Nat → Int32) {post : Int32 → Int32 → Int32 → (Nat → Int32) → (Nat → Int32) → Prop} (h : P_X9_largestAnagramGroup post v0 v1 v2 v3 v4 v5 v6 v7 v8) : cm l g yX9_largestAnagramGroup wsX9_largestAnagramGroup (rm_X9_largestAnagramGroup) [.ref a0] (W_X9_largestAnagramGroup g a0 a1 a2 a3 a4 a5 a6 a7 a8 a9 a10 a11 a12 a13 v0 v1 v2 v3 v4 v5 v6 v7 v8) (fun v X1 => ∃ (r : Int32) (uv0 : Int32) (uv4 : Int32) (uv7 : Nat → Int32) (uv8 : Nat → Int32), v = some (.int r) ∧ X1 = W_X9_largestAnagramGroup g a0 a1 a2 a3 a4 a5 a6 a7 a8 a9 a10 a11 a12 a13 uv0 v1 v2 v3 uv4 v5 v6 uv7 uv8 ∧ post r uv0 uv4 uv7 uv8) := by
  refine cm_of (cc := cX9_largestAnagramGroup) (nL := 3) (ret := (some .int)) (by decide +kernel) rfl (Nat.le_of_ble_eq_true rfl) ?_
  intro x hf hl hg hn hi hr
  subst hl
  subst hg
  show ww x (W_X9_largestAnagramGroup (xg x) a0 a1 a2 a3 a4 a5 a6 a7 a8 a9 a10 a11 a12 a13 v0 v1 v2 v3 v4 v5 v6 v7 v8) [(0, .ref a0)] 0 0 0 []
  unfold P_X9_largestAnagramGroup at h
  refine xw_aload_n hf (pc := 0) dX9_largestAnagramGroup_0 rfl 0 rfl ?_
  refine xw_iconst hf (pc := 1) dX9_largestAnagramGroup_1 (v := 0) (by decide) ?_
  refine xw_put hf (pc := 2) dX9_largestAnagramGroup_2 (T := TX9) mi_X9_largestAnagramGroup_X9 rfl tyX9_ok nmX9 0 rfl 0 (by decide) rfl mw_X9_largestAnagramGroup_0 rfl rfl rfl rfl (Nat.le_of_ble_eq_true rfl) (W_X9_largestAnagramGroup (xg x) a0 a1 a2 a3 a4 a5 a6 a7 a8 a9 a10 a11 a12 a13 0 v1 v2 v3 v4 v5 v6 v7 v8) rfl ?_
  refine xw_iconst hf (pc := 5) dX9_largestAnagramGroup_5 (v := 0) (by decide) ?_
  refine xw_istore_n hf (pc := 6) dX9_largestAnagramGroup_6 rfl [(1, .int 0), (0, .ref a0)] hn (by decide) rfl ?_
  refine xw_iconst hf (pc := 7) dX9_largestAnagramGroup_7 (v := 0) (by decide) ?_
  refine xw_istore_n hf (pc := 8) dX9_largestAnagramGroup_8 rfl [(2, .int 0), (1, .int 0), (0, .ref a0)] hn (by decide) rfl ?_
  refine xw_L [2, 1, 0] rfl ?_
  refine w_X9_largestAnagramGroup_L9 hf hn ⟨(Nat.le_of_ble_eq_true rfl), (Nat.le_of_ble_eq_true rfl)⟩ a0 a1 a2 a3 a4 a5 a6 a7 a8 a9 a10 a11 a12 a13 0 v1 v2 v3 v5 v6 FU _ _ _ _ _ h (fun x7 w8 w9 w10 h => ?_)
  refine xw_iload_n hf (pc := 43) dX9_largestAnagramGroup_43 rfl 0 rfl ?_
  exact xw_iret hf (pc := 44) dX9_largestAnagramGroup_44 hr (Nat.le_of_ble_eq_true rfl) (Nat.le_of_ble_eq_true rfl) ⟨_, _, _, _, _, rfl, rfl, h⟩
abbrev W_X9_fittingCount (g : Gx) (a0 a1 a2 a3 a4 a5 a6 a7 a8 a9 a10 a11 a12 a13 : Nat) (v0 : Int32) (v1 : Int32) (v2 : Int32) (v3 : Int32) (v4 : Int32) (v5 : Int32) (v6 : Nat → Int64) (v7 : Nat → Int32) (v8 : Nat → Int32) : va_W := [(a0, .inr (9, [.int v0, .ref a1, .int v1, .ref a4, .ref a5, .ref a6, .ref a7, .ref a8, .ref a9, .ref a10, .int v2, .int v3, .ref a2, .int v4, .ref a3, .ref a11, .ref a12, .ref a13, .int v5])), (a1, .inl (gJ g, 60, .inr (.inl v6))), (a2, .inl (gI g, 12, .inl v7)), (a3, .inl (gI g, 27, .inl v8))]
abbrev rm_X9_fittingCount : Room := { frames := 5, cells := 0, slots := 0, locals := 120 }
set_option maxHeartbeats 4000000 in
set_option maxRecDepth 100000 in
theorem c_X9_fittingCount (l : Launch) (g : Gx) (a0 a1 a2 a3 a4 a5 a6 a7 a8 a9 a10 a11 a12 a13 : Nat) (v0 : Int32) (v1 : Int32) (v2 : Int32) (v3 : Int32) (v4 : Int32) (v5 : Int32) (v6 : Nat → Int64) (v7 : Nat → Int32) (v8 : Nat → Int32) (p1 : Int64) {post : Int32 → Int32 → Int32 → (Nat → Int32) → (Nat → Int32) → Prop} (h : P_X9_fittingCount post p1 v0 v1 v2 v3 v4 v5 v6 v7 v8) : cm l g yX9_fittingCount wsX9_fittingCount (rm_X9_fittingCount) [.ref a0, .long p1] (W_X9_fittingCount g a0 a1 a2 a3 a4 a5 a6 a7 a8 a9 a10 a11 a12 a13 v0 v1 v2 v3 v4 v5 v6 v7 v8) (fun v X1 => ∃ (r : Int32) (uv0 : Int32) (uv4 : Int32) (uv7 : Nat → Int32) (uv8 : Nat → Int32), v = some (.int r) ∧ X1 = W_X9_fittingCount g a0 a1 a2 a3 a4 a5 a6 a7 a8 a9 a10 a11 a12 a13 uv0 v1 v2 v3 uv4 v5 v6 uv7 uv8 ∧ post r uv0 uv4 uv7 uv8) := by
  refine cm_of (cc := cX9_fittingCount) (nL := 3) (ret := (some .int)) (by decide +kernel) rfl (Nat.le_of_ble_eq_true rfl) ?_
  intro x hf hl hg hn hi hr
  subst hl
  subst hg
  show ww x (W_X9_fittingCount (xg x) a0 a1 a2 a3 a4 a5 a6 a7 a8 a9 a10 a11 a12 a13 v0 v1 v2 v3 v4 v5 v6 v7 v8) [(0, .ref a0), (1, .long p1)] 0 0 0 []
  unfold P_X9_fittingCount at h
  refine xw_aload_n hf (pc := 0) dX9_fittingCount_0 rfl 0 rfl ?_
  refine xw_lload_n hf (pc := 1) dX9_fittingCount_1 rfl 1 rfl ?_
  refine xw_iconst hf (pc := 2) dX9_fittingCount_2 (v := 1) (by decide) ?_
  refine xw_callV hf (pc := 3) (nA := 2) (Xr := []) (rest := []) (T := TX9) (c_X9_count (xl x) (xg x) a0 a1 a2 a3 a4 a5 a6 a7 a8 a9 a10 a11 a12 a13 v0 v1 v2 v3 v4 v5 v6 v7 v8 p1 1 h) gX9_fittingCount_X9_count (by rfl) rfl rfl (by decide +kernel) ⟨⟨(Nat.le_of_ble_eq_true rfl), (Nat.le_of_ble_eq_true rfl)⟩, (Nat.le_of_ble_eq_true rfl), (Nat.le_of_ble_eq_true rfl)⟩ (Nat.le_of_ble_eq_true rfl) rfl rfl (sb_of [0, 1, 2, 3] rfl rfl) rfl dX9_fittingCount_3 (fun v X1 hp => ?_)
  obtain ⟨r1, w2, w3, w4, w5, rfl, rfl, h⟩ := hp
  refine xw_X (sb_of [0, 1, 2, 3] rfl rfl) (show ww x (W_X9_fittingCount (xg x) a0 a1 a2 a3 a4 a5 a6 a7 a8 a9 a10 a11 a12 a13 w2 v1 v2 v3 w3 v5 v6 w4 w5) [(0, .ref a0), (1, .long p1)] 0 0 6 [.int r1] from ?_)
  exact xw_iret hf (pc := 6) dX9_fittingCount_6 hr (Nat.le_of_ble_eq_true rfl) (Nat.le_of_ble_eq_true rfl) ⟨_, _, _, _, _, rfl, rfl, h⟩
abbrev W_X9_fittingWord (g : Gx) (a0 a1 a2 a3 a4 a5 a6 a7 a8 a9 a10 a11 a12 a13 : Nat) (v0 : Int32) (v1 : Int32) (v2 : Int32) (v3 : Int32) (v4 : Int32) (v5 : Int32) (v6 : Nat → Int64) (v7 : Nat → Int32) (v8 : Nat → Int32) : va_W := [(a0, .inr (9, [.int v0, .ref a1, .int v1, .ref a4, .ref a5, .ref a6, .ref a7, .ref a8, .ref a9, .ref a10, .int v2, .int v3, .ref a2, .int v4, .ref a3, .ref a11, .ref a12, .ref a13, .int v5])), (a1, .inl (gJ g, 60, .inr (.inl v6))), (a2, .inl (gI g, 12, .inl v7)), (a3, .inl (gI g, 27, .inl v8))]
abbrev rm_X9_fittingWord : Room := { frames := 5, cells := 0, slots := 0, locals := 125 }
set_option maxHeartbeats 4000000 in
set_option maxRecDepth 100000 in
theorem c_X9_fittingWord (l : Launch) (g : Gx) (a0 a1 a2 a3 a4 a5 a6 a7 a8 a9 a10 a11 a12 a13 : Nat) (v0 : Int32) (v1 : Int32) (v2 : Int32) (v3 : Int32) (v4 : Int32) (v5 : Int32) (v6 : Nat → Int64) (v7 : Nat → Int32) (v8 : Nat → Int32) (p1 : Int64) (p3 : Int32) {post : Int64 → Int32 → Int32 → (Nat → Int32) → (Nat → Int32) → Prop} (h : P_X9_fittingWord post p1 p3 v0 v1 v2 v3 v4 v5 v6 v7 v8) : cm l g yX9_fittingWord wsX9_fittingWord (rm_X9_fittingWord) [.ref a0, .long p1, .int p3] (W_X9_fittingWord g a0 a1 a2 a3 a4 a5 a6 a7 a8 a9 a10 a11 a12 a13 v0 v1 v2 v3 v4 v5 v6 v7 v8) (fun v X1 => ∃ (r : Int64) (uv0 : Int32) (uv4 : Int32) (uv7 : Nat → Int32) (uv8 : Nat → Int32), v = some (.long r) ∧ X1 = W_X9_fittingWord g a0 a1 a2 a3 a4 a5 a6 a7 a8 a9 a10 a11 a12 a13 uv0 v1 v2 v3 uv4 v5 v6 uv7 uv8 ∧ post r uv0 uv4 uv7 uv8) := by
  refine cm_of (cc := cX9_fittingWord) (nL := 4) (ret := (some .long)) (by decide +kernel) rfl (Nat.le_of_ble_eq_true rfl) ?_
  intro x hf hl hg hn hi hr
  subst hl
  subst hg
  show ww x (W_X9_fittingWord (xg x) a0 a1 a2 a3 a4 a5 a6 a7 a8 a9 a10 a11 a12 a13 v0 v1 v2 v3 v4 v5 v6 v7 v8) [(0, .ref a0), (1, .long p1), (3, .int p3)] 0 0 0 []
  unfold P_X9_fittingWord at h
  refine xw_aload_n hf (pc := 0) dX9_fittingWord_0 rfl 0 rfl ?_
  refine xw_lload_n hf (pc := 1) dX9_fittingWord_1 rfl 1 rfl ?_
  refine xw_iconst hf (pc := 2) dX9_fittingWord_2 (v := 1) (by decide) ?_
  refine xw_iload_n hf (pc := 3) dX9_fittingWord_3 rfl 2 rfl ?_
  refine xw_callV hf (pc := 4) (nA := 3) (Xr := []) (rest := []) (T := TX9) (c_X9_find (xl x) (xg x) a0 a1 a2 a3 a4 a5 a6 a7 a8 a9 a10 a11 a12 a13 v0 v1 v2 v3 v4 v5 v6 v7 v8 p1 1 p3 h) gX9_fittingWord_X9_find (by rfl) rfl rfl (by decide +kernel) ⟨⟨(Nat.le_of_ble_eq_true rfl), (Nat.le_of_ble_eq_true rfl)⟩, (Nat.le_of_ble_eq_true rfl), (Nat.le_of_ble_eq_true rfl)⟩ (Nat.le_of_ble_eq_true rfl) rfl rfl (sb_of [0, 1, 2, 3] rfl rfl) rfl dX9_fittingWord_4 (fun v X1 hp => ?_)
  obtain ⟨r1, w2, w3, w4, w5, rfl, rfl, h⟩ := hp
  refine xw_X (sb_of [0, 1, 2, 3] rfl rfl) (show ww x (W_X9_fittingWord (xg x) a0 a1 a2 a3 a4 a5 a6 a7 a8 a9 a10 a11 a12 a13 w2 v1 v2 v3 w3 v5 v6 w4 w5) [(0, .ref a0), (1, .long p1), (3, .int p3)] 0 0 7 [.long r1] from ?_)
  exact xw_lret hf (pc := 7) dX9_fittingWord_7 hr (Nat.le_of_ble_eq_true rfl) (Nat.le_of_ble_eq_true rfl) ⟨_, _, _, _, _, rfl, rfl, h⟩
