abbrev W_X6_size (g : Gx) (a0 a1 : Nat) (v0 : Int32) : va_W := [(a0, .inr (7, [.ref a1, .int v0]))]
abbrev rm_X6_size : Room := { frames := 0, cells := 0, slots := 0, locals := 0 }
theorem mw_X6_size_0 : (Cond.fieldLink RX6 13 "AnagramButcher$WordRow" "count" "I" : Cond) ∈ wsX6_size := (List.mem_cons_of_mem _ (List.mem_append_left _ (List.mem_of_getElem? (i := 0) rfl)))
theorem mi_X6_size_X6 : ∀ w ∈ wsX60, w ∈ wsX6_size := fun _ h => (List.mem_cons_of_mem _ (List.mem_append_right _ h))
set_option maxHeartbeats 4000000 in
set_option maxRecDepth 100000 in
theorem c_X6_size (l : Launch) (g : Gx) (a0 a1 : Nat) (v0 : Int32) {post : Int32 → Prop} (h : P_X6_size post v0) : cm l g yX6_size wsX6_size (rm_X6_size) [.ref a0] (W_X6_size g a0 a1 v0) (fun v X1 => ∃ (r : Int32), v = some (.int r) ∧ X1 = W_X6_size g a0 a1 v0 ∧ post r) := by
  refine cm_of (cc := cX6_size) (nL := 1) (ret := (some .int)) (by decide +kernel) rfl (Nat.le_of_ble_eq_true rfl) ?_
  intro x hf hl hg hn hi hr
  subst hl
  subst hg
  show ww x (W_X6_size (xg x) a0 a1 v0) [(0, .ref a0)] 0 0 0 []
  unfold P_X6_size at h
  refine xw_aload_n hf (pc := 0) dX6_size_0 rfl 0 rfl ?_
  refine xw_get hf (pc := 1) dX6_size_1 (T := TX6) mi_X6_size_X6 rfl 0 rfl 1 (by decide) rfl mw_X6_size_0 rfl ?_
  exact xw_iret hf (pc := 4) dX6_size_4 hr (Nat.le_of_ble_eq_true rfl) (Nat.le_of_ble_eq_true rfl) ⟨_, rfl, rfl, h⟩
abbrev W_X6_isFull (g : Gx) (a0 a1 : Nat) (v0 : Int32) : va_W := [(a0, .inr (7, [.ref a1, .int v0]))]
abbrev rm_X6_isFull : Room := { frames := 0, cells := 0, slots := 0, locals := 0 }
theorem mw_X6_isFull_0 : (Cond.fieldLink RX6 13 "AnagramButcher$WordRow" "count" "I" : Cond) ∈ wsX6_isFull := (List.mem_cons_of_mem _ (List.mem_append_left _ (List.mem_of_getElem? (i := 0) rfl)))
theorem mi_X6_isFull_X6 : ∀ w ∈ wsX60, w ∈ wsX6_isFull := fun _ h => (List.mem_cons_of_mem _ (List.mem_append_right _ h))
set_option maxHeartbeats 4000000 in
set_option maxRecDepth 100000 in
theorem c_X6_isFull (l : Launch) (g : Gx) (a0 a1 : Nat) (v0 : Int32) {post : Int32 → Prop} (h : P_X6_isFull post v0) : cm l g yX6_isFull wsX6_isFull (rm_X6_isFull) [.ref a0] (W_X6_isFull g a0 a1 v0) (fun v X1 => ∃ (r : Int32), v = some (.int r) ∧ X1 = W_X6_isFull g a0 a1 v0 ∧ post r) := by
  refine cm_of (cc := cX6_isFull) (nL := 1) (ret := (some .boolean)) (by decide +kernel) rfl (Nat.le_of_ble_eq_true rfl) ?_
  intro x hf hl hg hn hi hr
  subst hl
  subst hg
  show ww x (W_X6_isFull (xg x) a0 a1 v0) [(0, .ref a0)] 0 0 0 []
  unfold P_X6_isFull at h
  refine xw_aload_n hf (pc := 0) dX6_isFull_0 rfl 0 rfl ?_
  refine xw_get hf (pc := 1) dX6_isFull_1 (T := TX6) mi_X6_isFull_X6 rfl 0 rfl 1 (by decide) rfl mw_X6_isFull_0 rfl ?_
  refine xw_bipush hf (pc := 4) dX6_isFull_4 (v := 60) (by decide) ?_
  refine xw_icmp_lt hf (pc := 6) dX6_isFull_6 (tgt := 13) rfl ⟨fun c => ?_, fun c => ?_⟩
  · have h := h.1 c
    refine xw_iconst hf (pc := 13) dX6_isFull_13 (v := 0) (by decide) ?_
    exact xw_zret hf (pc := 14) dX6_isFull_14 hr (Nat.le_of_ble_eq_true rfl) (Nat.le_of_ble_eq_true rfl) rfl ⟨_, rfl, rfl, h⟩
  · have h := h.2 c
    refine xw_iconst hf (pc := 9) dX6_isFull_9 (v := 1) (by decide) ?_
    refine xw_goto hf (pc := 10) dX6_isFull_10 (tgt := 14) rfl ?_
    exact xw_zret hf (pc := 14) dX6_isFull_14 hr (Nat.le_of_ble_eq_true rfl) (Nat.le_of_ble_eq_true rfl) rfl ⟨_, rfl, rfl, h⟩
abbrev W_X6_word (g : Gx) (a0 a1 : Nat) (v0 : Int32) (v1 : Nat → Int64) : va_W := [(a0, .inr (7, [.ref a1, .int v0])), (a1, .inl (gJ g, 60, .inr (.inl v1)))]
abbrev rm_X6_word : Room := { frames := 0, cells := 0, slots := 0, locals := 0 }
theorem mw_X6_word_0 : (Cond.fieldLink RX6 13 "AnagramButcher$WordRow" "count" "I" : Cond) ∈ wsX6_word := (List.mem_cons_of_mem _ (List.mem_append_left _ (List.mem_of_getElem? (i := 0) rfl)))
theorem mw_X6_word_1 : (Cond.fieldLink RX6 9 "AnagramButcher$WordRow" "words" "[J" : Cond) ∈ wsX6_word := (List.mem_cons_of_mem _ (List.mem_append_left _ (List.mem_of_getElem? (i := 1) rfl)))
theorem mi_X6_word_X6 : ∀ w ∈ wsX60, w ∈ wsX6_word := fun _ h => (List.mem_cons_of_mem _ (List.mem_append_right _ h))
set_option maxHeartbeats 4000000 in
set_option maxRecDepth 100000 in
theorem c_X6_word (l : Launch) (g : Gx) (a0 a1 : Nat) (v0 : Int32) (v1 : Nat → Int64) (p1 : Int32) {post : Int64 → Prop} (h : P_X6_word post p1 v0 v1) : cm l g yX6_word wsX6_word (rm_X6_word) [.ref a0, .int p1] (W_X6_word g a0 a1 v0 v1) (fun v X1 => ∃ (r : Int64), v = some (.long r) ∧ X1 = W_X6_word g a0 a1 v0 v1 ∧ post r) := by
  refine cm_of (cc := cX6_word) (nL := 2) (ret := (some .long)) (by decide +kernel) rfl (Nat.le_of_ble_eq_true rfl) ?_
  intro x hf hl hg hn hi hr
  subst hl
  subst hg
  show ww x (W_X6_word (xg x) a0 a1 v0 v1) [(0, .ref a0), (1, .int p1)] 0 0 0 []
  unfold P_X6_word at h
  refine xw_iload_n hf (pc := 0) dX6_word_0 rfl 1 rfl ?_
  refine xw_if_lt hf (pc := 1) dX6_word_1 (c := p1 < 0) Iff.rfl (tgt := 21) rfl ⟨fun c => ?_, fun c => ?_⟩
  · have h := h.1 c
    refine xw_lconst hf (pc := 21) dX6_word_21 (v := 0) (by decide) ?_
    exact xw_lret hf (pc := 22) dX6_word_22 hr (Nat.le_of_ble_eq_true rfl) (Nat.le_of_ble_eq_true rfl) ⟨_, rfl, rfl, h⟩
  · have h := h.2 c
    refine xw_iload_n hf (pc := 4) dX6_word_4 rfl 1 rfl ?_
    refine xw_aload_n hf (pc := 5) dX6_word_5 rfl 0 rfl ?_
    refine xw_get hf (pc := 6) dX6_word_6 (T := TX6) mi_X6_word_X6 rfl 0 rfl 1 (by decide) rfl mw_X6_word_0 rfl ?_
    refine xw_icmp_ge hf (pc := 9) dX6_word_9 (tgt := 21) rfl ⟨fun c => ?_, fun c => ?_⟩
    · have h := h.1 c
      refine xw_lconst hf (pc := 21) dX6_word_21 (v := 0) (by decide) ?_
      exact xw_lret hf (pc := 22) dX6_word_22 hr (Nat.le_of_ble_eq_true rfl) (Nat.le_of_ble_eq_true rfl) ⟨_, rfl, rfl, h⟩
    · have h := h.2 c
      refine xw_aload_n hf (pc := 12) dX6_word_12 rfl 0 rfl ?_
      refine xw_get hf (pc := 13) dX6_word_13 (T := TX6) mi_X6_word_X6 rfl 0 rfl 0 (by decide) rfl mw_X6_word_1 rfl ?_
      refine xw_iload_n hf (pc := 16) dX6_word_16 rfl 1 rfl ?_
      refine xw_lald hf (pc := 17) dX6_word_17 1 rfl h.1 ?_
      have h := h.2
      refine xw_goto hf (pc := 18) dX6_word_18 (tgt := 22) rfl ?_
      exact xw_lret hf (pc := 22) dX6_word_22 hr (Nat.le_of_ble_eq_true rfl) (Nat.le_of_ble_eq_true rfl) ⟨_, rfl, rfl, h⟩
abbrev W_X6_clear (g : Gx) (a0 a1 : Nat) (v0 : Int32) : va_W := [(a0, .inr (7, [.ref a1, .int v0]))]
abbrev rm_X6_clear : Room := { frames := 0, cells := 0, slots := 0, locals := 0 }
theorem mw_X6_clear_0 : (Cond.fieldLink RX6 13 "AnagramButcher$WordRow" "count" "I" : Cond) ∈ wsX6_clear := (List.mem_cons_of_mem _ (List.mem_append_left _ (List.mem_of_getElem? (i := 0) rfl)))
theorem mi_X6_clear_X6 : ∀ w ∈ wsX60, w ∈ wsX6_clear := fun _ h => (List.mem_cons_of_mem _ (List.mem_append_right _ h))
set_option maxHeartbeats 4000000 in
set_option maxRecDepth 100000 in
theorem c_X6_clear (l : Launch) (g : Gx) (a0 a1 : Nat) (v0 : Int32) {post : Int32 → Prop} (h : P_X6_clear post v0) : cm l g yX6_clear wsX6_clear (rm_X6_clear) [.ref a0] (W_X6_clear g a0 a1 v0) (fun v X1 => ∃ (uv0 : Int32), v = none ∧ X1 = W_X6_clear g a0 a1 uv0 ∧ post uv0) := by
  refine cm_of (cc := cX6_clear) (nL := 1) (ret := none) (by decide +kernel) rfl (Nat.le_of_ble_eq_true rfl) ?_
  intro x hf hl hg hn hi hr
  subst hl
  subst hg
  show ww x (W_X6_clear (xg x) a0 a1 v0) [(0, .ref a0)] 0 0 0 []
  unfold P_X6_clear at h
  refine xw_aload_n hf (pc := 0) dX6_clear_0 rfl 0 rfl ?_
  refine xw_iconst hf (pc := 1) dX6_clear_1 (v := 0) (by decide) ?_
  refine xw_put hf (pc := 2) dX6_clear_2 (T := TX6) mi_X6_clear_X6 rfl tyX6_ok nmX6 0 rfl 1 (by decide) rfl mw_X6_clear_0 rfl rfl rfl rfl (Nat.le_of_ble_eq_true rfl) (W_X6_clear (xg x) a0 a1 0) rfl ?_
  exact xw_vret hf (pc := 5) dX6_clear_5 hr (Nat.le_of_ble_eq_true rfl) (Nat.le_of_ble_eq_true rfl) ⟨_, rfl, rfl, h⟩
abbrev W_X6_insert (g : Gx) (a0 a1 : Nat) (v0 : Int32) (v1 : Nat → Int64) : va_W := [(a0, .inr (7, [.ref a1, .int v0])), (a1, .inl (gJ g, 60, .inr (.inl v1)))]
abbrev rm_X6_insert : Room := { frames := 0, cells := 0, slots := 0, locals := 0 }
theorem mw_X6_insert_0 : (Cond.fieldLink RX6 13 "AnagramButcher$WordRow" "count" "I" : Cond) ∈ wsX6_insert := (List.mem_cons_of_mem _ (List.mem_append_left _ (List.mem_of_getElem? (i := 0) rfl)))
theorem mw_X6_insert_1 : (Cond.fieldLink RX6 9 "AnagramButcher$WordRow" "words" "[J" : Cond) ∈ wsX6_insert := (List.mem_cons_of_mem _ (List.mem_append_left _ (List.mem_of_getElem? (i := 1) rfl)))
theorem mi_X6_insert_X6 : ∀ w ∈ wsX60, w ∈ wsX6_insert := fun _ h => (List.mem_cons_of_mem _ (List.mem_append_right _ h))
set_option maxHeartbeats 4000000 in
set_option maxRecDepth 100000 in
theorem w_X6_insert_L28 {x : Cx} (hf : fx x (rm_X6_insert) RX6 cX6_insert wsX6_insert) (hn : xn x = 5) {k0 n0 : Nat} (hk : k0 ≤ (rm_X6_insert).cells ∧ n0 ≤ (rm_X6_insert).slots) (a0 a1 : Nat) (z1 : Int32) (z2 : Int64) (v0 : Int32) {K56 : (Nat → Int64) → Prop}
    (n : Nat) (z4 : Int32) (v1 : Nat → Int64) (h : P_X6_insert_L28 z1 z2 K56 n z4 v1)
    (hK56 : ∀ (uv1 : Nat → Int64), K56 uv1 → ww x (W_X6_insert (xg x) a0 a1 v0 uv1) [(0, .ref a0), (1, .int z1), (2, .long z2)] k0 n0 56 []) :
    ww x (W_X6_insert (xg x) a0 a1 v0 v1) [(0, .ref a0), (1, .int z1), (2, .long z2), (4, .int z4)] k0 n0 28 [] := by
  induction n generalizing z4 v1 with
  | zero => exact h.elim
  | succ n ih =>
    unfold P_X6_insert_L28 at h
    refine xw_iload hf (pc := 28) dX6_insert_28 3 rfl ?_
    refine xw_iload_n hf (pc := 30) dX6_insert_30 rfl 1 rfl ?_
    refine xw_icmp_le hf (pc := 31) dX6_insert_31 (tgt := 56) rfl ⟨fun c => ?_, fun c => ?_⟩
    · have h := h.1 c
      refine xw_L [0, 1, 2] rfl ?_
      exact hK56 _ h
    · have h := h.2 c
      refine xw_aload_n hf (pc := 34) dX6_insert_34 rfl 0 rfl ?_
      refine xw_get hf (pc := 35) dX6_insert_35 (T := TX6) mi_X6_insert_X6 rfl 0 rfl 0 (by decide) rfl mw_X6_insert_1 rfl ?_
      refine xw_iload hf (pc := 38) dX6_insert_38 3 rfl ?_
      refine xw_aload_n hf (pc := 40) dX6_insert_40 rfl 0 rfl ?_
      refine xw_get hf (pc := 41) dX6_insert_41 (T := TX6) mi_X6_insert_X6 rfl 0 rfl 0 (by decide) rfl mw_X6_insert_1 rfl ?_
      refine xw_iload hf (pc := 44) dX6_insert_44 3 rfl ?_
      refine xw_iconst hf (pc := 46) dX6_insert_46 (v := 1) (by decide) ?_
      refine xw_isub hf (pc := 47) dX6_insert_47 ?_
      refine xw_lald hf (pc := 48) dX6_insert_48 1 rfl h.1 ?_
      have h := h.2
      refine xw_last hf (pc := 49) dX6_insert_49 1 rfl h.1 (W_X6_insert (xg x) a0 a1 v0 (vp_updL v1 z4.toNatClampNeg (v1 (z4 - 1).toNatClampNeg))) rfl ?_
      have h := h.2
      refine xw_iinc hf (pc := 50) dX6_insert_50 (v := z4 + (-1)) 3 rfl rfl [(4, .int (z4 + (-1))), (0, .ref a0), (1, .int z1), (2, .long z2)] hn (by decide) rfl ?_
      refine xw_goto hf (pc := 53) dX6_insert_53 (tgt := 28) rfl ?_
      refine xw_L [1, 2, 3, 0] rfl ?_
      exact ih _ _ h
set_option maxHeartbeats 4000000 in
set_option maxRecDepth 100000 in
theorem c_X6_insert (l : Launch) (g : Gx) (a0 a1 : Nat) (v0 : Int32) (v1 : Nat → Int64) (p1 : Int32) (p2 : Int64) {post : Int32 → (Nat → Int64) → Prop} (h : P_X6_insert post p1 p2 v0 v1) : cm l g yX6_insert wsX6_insert (rm_X6_insert) [.ref a0, .int p1, .long p2] (W_X6_insert g a0 a1 v0 v1) (fun v X1 => ∃ (uv0 : Int32) (uv1 : Nat → Int64), v = none ∧ X1 = W_X6_insert g a0 a1 uv0 uv1 ∧ post uv0 uv1) := by
  refine cm_of (cc := cX6_insert) (nL := 5) (ret := none) (by decide +kernel) rfl (Nat.le_of_ble_eq_true rfl) ?_
  intro x hf hl hg hn hi hr
  subst hl
  subst hg
  show ww x (W_X6_insert (xg x) a0 a1 v0 v1) [(0, .ref a0), (1, .int p1), (2, .long p2)] 0 0 0 []
  unfold P_X6_insert at h
  refine xw_aload_n hf (pc := 0) dX6_insert_0 rfl 0 rfl ?_
  refine xw_get hf (pc := 1) dX6_insert_1 (T := TX6) mi_X6_insert_X6 rfl 0 rfl 1 (by decide) rfl mw_X6_insert_0 rfl ?_
  refine xw_bipush hf (pc := 4) dX6_insert_4 (v := 60) (by decide) ?_
  refine xw_icmp_ge hf (pc := 6) dX6_insert_6 (tgt := 21) rfl ⟨fun c => ?_, fun c => ?_⟩
  · have h := h.1 c
    exact xw_vret hf (pc := 21) dX6_insert_21 hr (Nat.le_of_ble_eq_true rfl) (Nat.le_of_ble_eq_true rfl) ⟨_, _, rfl, rfl, h⟩
  · have h := h.2 c
    refine xw_iload_n hf (pc := 9) dX6_insert_9 rfl 1 rfl ?_
    refine xw_if_lt hf (pc := 10) dX6_insert_10 (c := p1 < 0) Iff.rfl (tgt := 21) rfl ⟨fun c => ?_, fun c => ?_⟩
    · have h := h.1 c
      exact xw_vret hf (pc := 21) dX6_insert_21 hr (Nat.le_of_ble_eq_true rfl) (Nat.le_of_ble_eq_true rfl) ⟨_, _, rfl, rfl, h⟩
    · have h := h.2 c
      refine xw_iload_n hf (pc := 13) dX6_insert_13 rfl 1 rfl ?_
      refine xw_aload_n hf (pc := 14) dX6_insert_14 rfl 0 rfl ?_
      refine xw_get hf (pc := 15) dX6_insert_15 (T := TX6) mi_X6_insert_X6 rfl 0 rfl 1 (by decide) rfl mw_X6_insert_0 rfl ?_
      refine xw_icmp_le hf (pc := 18) dX6_insert_18 (tgt := 22) rfl ⟨fun c => ?_, fun c => ?_⟩
      · have h := h.1 c
        refine xw_aload_n hf (pc := 22) dX6_insert_22 rfl 0 rfl ?_
        refine xw_get hf (pc := 23) dX6_insert_23 (T := TX6) mi_X6_insert_X6 rfl 0 rfl 1 (by decide) rfl mw_X6_insert_0 rfl ?_
        refine xw_istore hf (pc := 26) dX6_insert_26 [(4, .int v0), (0, .ref a0), (1, .int p1), (2, .long p2)] hn (by decide) rfl ?_
        refine xw_L [1, 2, 3, 0] rfl ?_
        refine w_X6_insert_L28 hf hn ⟨(Nat.le_of_ble_eq_true rfl), (Nat.le_of_ble_eq_true rfl)⟩ a0 a1 p1 p2 v0 FU _ _ h (fun w1 h => ?_)
        refine xw_aload_n hf (pc := 56) dX6_insert_56 rfl 0 rfl ?_
        refine xw_get hf (pc := 57) dX6_insert_57 (T := TX6) mi_X6_insert_X6 rfl 0 rfl 0 (by decide) rfl mw_X6_insert_1 rfl ?_
        refine xw_iload_n hf (pc := 60) dX6_insert_60 rfl 1 rfl ?_
        refine xw_lload_n hf (pc := 61) dX6_insert_61 rfl 2 rfl ?_
        refine xw_last hf (pc := 62) dX6_insert_62 1 rfl h.1 (W_X6_insert (xg x) a0 a1 v0 (vp_updL w1 p1.toNatClampNeg p2)) rfl ?_
        have h := h.2
        refine xw_aload_n hf (pc := 63) dX6_insert_63 rfl 0 rfl ?_
        refine xw_dup hf (pc := 64) dX6_insert_64 rfl ?_
        refine xw_get hf (pc := 65) dX6_insert_65 (T := TX6) mi_X6_insert_X6 rfl 0 rfl 1 (by decide) rfl mw_X6_insert_0 rfl ?_
        refine xw_iconst hf (pc := 68) dX6_insert_68 (v := 1) (by decide) ?_
        refine xw_iadd hf (pc := 69) dX6_insert_69 ?_
        refine xw_put hf (pc := 70) dX6_insert_70 (T := TX6) mi_X6_insert_X6 rfl tyX6_ok nmX6 0 rfl 1 (by decide) rfl mw_X6_insert_0 rfl rfl rfl rfl (Nat.le_of_ble_eq_true rfl) (W_X6_insert (xg x) a0 a1 (v0 + 1) (vp_updL w1 p1.toNatClampNeg p2)) rfl ?_
        exact xw_vret hf (pc := 73) dX6_insert_73 hr (Nat.le_of_ble_eq_true rfl) (Nat.le_of_ble_eq_true rfl) ⟨_, _, rfl, rfl, h⟩
      · have h := h.2 c
        exact xw_vret hf (pc := 21) dX6_insert_21 hr (Nat.le_of_ble_eq_true rfl) (Nat.le_of_ble_eq_true rfl) ⟨_, _, rfl, rfl, h⟩
abbrev W_X6_append (g : Gx) (a0 a1 : Nat) (v0 : Int32) (v1 : Nat → Int64) : va_W := [(a0, .inr (7, [.ref a1, .int v0])), (a1, .inl (gJ g, 60, .inr (.inl v1)))]
abbrev rm_X6_append : Room := { frames := 1, cells := 0, slots := 0, locals := 24 }
theorem mw_X6_append_0 : (Cond.fieldLink RX6 13 "AnagramButcher$WordRow" "count" "I" : Cond) ∈ wsX6_append := (List.mem_cons_of_mem _ (List.mem_append_left _ (List.mem_of_getElem? (i := 0) rfl)))
theorem mi_X6_append_X6 : ∀ w ∈ wsX60, w ∈ wsX6_append := fun _ h => (List.mem_cons_of_mem _ (List.mem_append_right _ h))
set_option maxHeartbeats 4000000 in
set_option maxRecDepth 100000 in
theorem c_X6_append (l : Launch) (g : Gx) (a0 a1 : Nat) (v0 : Int32) (v1 : Nat → Int64) (p1 : Int64) {post : Int32 → (Nat → Int64) → Prop} (h : P_X6_append post p1 v0 v1) : cm l g yX6_append wsX6_append (rm_X6_append) [.ref a0, .long p1] (W_X6_append g a0 a1 v0 v1) (fun v X1 => ∃ (uv0 : Int32) (uv1 : Nat → Int64), v = none ∧ X1 = W_X6_append g a0 a1 uv0 uv1 ∧ post uv0 uv1) := by
  refine cm_of (cc := cX6_append) (nL := 3) (ret := none) (by decide +kernel) rfl (Nat.le_of_ble_eq_true rfl) ?_
  intro x hf hl hg hn hi hr
  subst hl
  subst hg
  show ww x (W_X6_append (xg x) a0 a1 v0 v1) [(0, .ref a0), (1, .long p1)] 0 0 0 []
  unfold P_X6_append at h
  refine xw_aload_n hf (pc := 0) dX6_append_0 rfl 0 rfl ?_
  refine xw_aload_n hf (pc := 1) dX6_append_1 rfl 0 rfl ?_
  refine xw_get hf (pc := 2) dX6_append_2 (T := TX6) mi_X6_append_X6 rfl 0 rfl 1 (by decide) rfl mw_X6_append_0 rfl ?_
  refine xw_lload_n hf (pc := 5) dX6_append_5 rfl 1 rfl ?_
  refine xw_callV hf (pc := 6) (nA := 2) (Xr := []) (rest := []) (T := TX6) (c_X6_insert (xl x) (xg x) a0 a1 v0 v1 v0 p1 h) gX6_append_X6_insert (by rfl) rfl rfl (by decide +kernel) ⟨⟨(Nat.le_of_ble_eq_true rfl), (Nat.le_of_ble_eq_true rfl)⟩, (Nat.le_of_ble_eq_true rfl), (Nat.le_of_ble_eq_true rfl)⟩ (Nat.le_of_ble_eq_true rfl) rfl rfl (sb_of [0, 1] rfl rfl) rfl dX6_append_6 (fun v X1 hp => ?_)
  obtain ⟨w2, w3, rfl, rfl, h⟩ := hp
  refine xw_X (sb_of [0, 1] rfl rfl) (show ww x (W_X6_append (xg x) a0 a1 w2 w3) [(0, .ref a0), (1, .long p1)] 0 0 9 [] from ?_)
  exact xw_vret hf (pc := 9) dX6_append_9 hr (Nat.le_of_ble_eq_true rfl) (Nat.le_of_ble_eq_true rfl) ⟨_, _, rfl, rfl, h⟩
abbrev W_X6_delete (g : Gx) (a0 a1 : Nat) (v0 : Int32) (v1 : Nat → Int64) : va_W := [(a0, .inr (7, [.ref a1, .int v0])), (a1, .inl (gJ g, 60, .inr (.inl v1)))]
abbrev rm_X6_delete : Room := { frames := 0, cells := 0, slots := 0, locals := 0 }
theorem mw_X6_delete_0 : (Cond.fieldLink RX6 13 "AnagramButcher$WordRow" "count" "I" : Cond) ∈ wsX6_delete := (List.mem_cons_of_mem _ (List.mem_append_left _ (List.mem_of_getElem? (i := 0) rfl)))
theorem mw_X6_delete_1 : (Cond.fieldLink RX6 9 "AnagramButcher$WordRow" "words" "[J" : Cond) ∈ wsX6_delete := (List.mem_cons_of_mem _ (List.mem_append_left _ (List.mem_of_getElem? (i := 1) rfl)))
theorem mi_X6_delete_X6 : ∀ w ∈ wsX60, w ∈ wsX6_delete := fun _ h => (List.mem_cons_of_mem _ (List.mem_append_right _ h))
set_option maxHeartbeats 4000000 in
set_option maxRecDepth 100000 in
theorem w_X6_delete_L25 {x : Cx} (hf : fx x (rm_X6_delete) RX6 cX6_delete wsX6_delete) (hn : xn x = 3) {k0 n0 : Nat} (hk : k0 ≤ (rm_X6_delete).cells ∧ n0 ≤ (rm_X6_delete).slots) (a0 a1 : Nat) (v0 : Int32) {K53 : (Nat → Int64) → Prop}
    (n : Nat) (z2 : Int32) (v1 : Nat → Int64) (h : P_X6_delete_L25 v0 K53 n z2 v1)
    (hK53 : ∀ (uv1 : Nat → Int64), K53 uv1 → ww x (W_X6_delete (xg x) a0 a1 v0 uv1) [] k0 n0 53 []) :
    ww x (W_X6_delete (xg x) a0 a1 v0 v1) [(0, .ref a0), (2, .int z2)] k0 n0 25 [] := by
  induction n generalizing z2 v1 with
  | zero => exact h.elim
  | succ n ih =>
    unfold P_X6_delete_L25 at h
    refine xw_iload_n hf (pc := 25) dX6_delete_25 rfl 1 rfl ?_
    refine xw_aload_n hf (pc := 26) dX6_delete_26 rfl 0 rfl ?_
    refine xw_get hf (pc := 27) dX6_delete_27 (T := TX6) mi_X6_delete_X6 rfl 0 rfl 1 (by decide) rfl mw_X6_delete_0 rfl ?_
    refine xw_icmp_ge hf (pc := 30) dX6_delete_30 (tgt := 53) rfl ⟨fun c => ?_, fun c => ?_⟩
    · have h := h.1 c
      refine xw_L [] rfl ?_
      exact hK53 _ h
    · have h := h.2 c
      refine xw_aload_n hf (pc := 33) dX6_delete_33 rfl 0 rfl ?_
      refine xw_get hf (pc := 34) dX6_delete_34 (T := TX6) mi_X6_delete_X6 rfl 0 rfl 0 (by decide) rfl mw_X6_delete_1 rfl ?_
      refine xw_iload_n hf (pc := 37) dX6_delete_37 rfl 1 rfl ?_
      refine xw_aload_n hf (pc := 38) dX6_delete_38 rfl 0 rfl ?_
      refine xw_get hf (pc := 39) dX6_delete_39 (T := TX6) mi_X6_delete_X6 rfl 0 rfl 0 (by decide) rfl mw_X6_delete_1 rfl ?_
      refine xw_iload_n hf (pc := 42) dX6_delete_42 rfl 1 rfl ?_
      refine xw_iconst hf (pc := 43) dX6_delete_43 (v := 1) (by decide) ?_
      refine xw_iadd hf (pc := 44) dX6_delete_44 ?_
      refine xw_lald hf (pc := 45) dX6_delete_45 1 rfl h.1 ?_
      have h := h.2
      refine xw_last hf (pc := 46) dX6_delete_46 1 rfl h.1 (W_X6_delete (xg x) a0 a1 v0 (vp_updL v1 z2.toNatClampNeg (v1 (z2 + 1).toNatClampNeg))) rfl ?_
      have h := h.2
      refine xw_iinc hf (pc := 47) dX6_delete_47 (v := z2 + 1) 1 rfl rfl [(2, .int (z2 + 1)), (0, .ref a0)] hn (by decide) rfl ?_
      refine xw_goto hf (pc := 50) dX6_delete_50 (tgt := 25) rfl ?_
      refine xw_L [1, 0] rfl ?_
      exact ih _ _ h
set_option maxHeartbeats 4000000 in
set_option maxRecDepth 100000 in
theorem c_X6_delete (l : Launch) (g : Gx) (a0 a1 : Nat) (v0 : Int32) (v1 : Nat → Int64) (p1 : Int32) {post : Int32 → (Nat → Int64) → Prop} (h : P_X6_delete post p1 v0 v1) : cm l g yX6_delete wsX6_delete (rm_X6_delete) [.ref a0, .int p1] (W_X6_delete g a0 a1 v0 v1) (fun v X1 => ∃ (uv0 : Int32) (uv1 : Nat → Int64), v = none ∧ X1 = W_X6_delete g a0 a1 uv0 uv1 ∧ post uv0 uv1) := by
  refine cm_of (cc := cX6_delete) (nL := 3) (ret := none) (by decide +kernel) rfl (Nat.le_of_ble_eq_true rfl) ?_
  intro x hf hl hg hn hi hr
  subst hl
  subst hg
  show ww x (W_X6_delete (xg x) a0 a1 v0 v1) [(0, .ref a0), (1, .int p1)] 0 0 0 []
  unfold P_X6_delete at h
  refine xw_iload_n hf (pc := 0) dX6_delete_0 rfl 1 rfl ?_
  refine xw_if_lt hf (pc := 1) dX6_delete_1 (c := p1 < 0) Iff.rfl (tgt := 12) rfl ⟨fun c => ?_, fun c => ?_⟩
  · have h := h.1 c
    exact xw_vret hf (pc := 12) dX6_delete_12 hr (Nat.le_of_ble_eq_true rfl) (Nat.le_of_ble_eq_true rfl) ⟨_, _, rfl, rfl, h⟩
  · have h := h.2 c
    refine xw_iload_n hf (pc := 4) dX6_delete_4 rfl 1 rfl ?_
    refine xw_aload_n hf (pc := 5) dX6_delete_5 rfl 0 rfl ?_
    refine xw_get hf (pc := 6) dX6_delete_6 (T := TX6) mi_X6_delete_X6 rfl 0 rfl 1 (by decide) rfl mw_X6_delete_0 rfl ?_
    refine xw_icmp_lt hf (pc := 9) dX6_delete_9 (tgt := 13) rfl ⟨fun c => ?_, fun c => ?_⟩
    · have h := h.1 c
      refine xw_aload_n hf (pc := 13) dX6_delete_13 rfl 0 rfl ?_
      refine xw_dup hf (pc := 14) dX6_delete_14 rfl ?_
      refine xw_get hf (pc := 15) dX6_delete_15 (T := TX6) mi_X6_delete_X6 rfl 0 rfl 1 (by decide) rfl mw_X6_delete_0 rfl ?_
      refine xw_iconst hf (pc := 18) dX6_delete_18 (v := 1) (by decide) ?_
      refine xw_isub hf (pc := 19) dX6_delete_19 ?_
      refine xw_put hf (pc := 20) dX6_delete_20 (T := TX6) mi_X6_delete_X6 rfl tyX6_ok nmX6 0 rfl 1 (by decide) rfl mw_X6_delete_0 rfl rfl rfl rfl (Nat.le_of_ble_eq_true rfl) (W_X6_delete (xg x) a0 a1 (v0 - 1) v1) rfl ?_
      refine xw_iload_n hf (pc := 23) dX6_delete_23 rfl 1 rfl ?_
      refine xw_istore_n hf (pc := 24) dX6_delete_24 rfl [(2, .int p1), (0, .ref a0), (1, .int p1)] hn (by decide) rfl ?_
      refine xw_L [1, 0] rfl ?_
      refine w_X6_delete_L25 hf hn ⟨(Nat.le_of_ble_eq_true rfl), (Nat.le_of_ble_eq_true rfl)⟩ a0 a1 (v0 - 1) FU _ _ h (fun w1 h => ?_)
      exact xw_vret hf (pc := 53) dX6_delete_53 hr (Nat.le_of_ble_eq_true rfl) (Nat.le_of_ble_eq_true rfl) ⟨_, _, rfl, rfl, h⟩
    · have h := h.2 c
      exact xw_vret hf (pc := 12) dX6_delete_12 hr (Nat.le_of_ble_eq_true rfl) (Nat.le_of_ble_eq_true rfl) ⟨_, _, rfl, rfl, h⟩
abbrev W_X6_copy (g : Gx) (a0 a1 a2 a3 : Nat) (v0 : Int32) (v1 : Nat → Int64) (v2 : Int32) (v3 : Nat → Int64) : va_W := [(a0, .inr (7, [.ref a1, .int v0])), (a1, .inl (gJ g, 60, .inr (.inl v1))), (a2, .inr (7, [.ref a3, .int v2])), (a3, .inl (gJ g, 60, .inr (.inl v3)))]
abbrev rm_X6_copy : Room := { frames := 0, cells := 0, slots := 0, locals := 0 }
theorem mw_X6_copy_0 : (Cond.fieldLink RX6 13 "AnagramButcher$WordRow" "count" "I" : Cond) ∈ wsX6_copy := (List.mem_cons_of_mem _ (List.mem_append_left _ (List.mem_of_getElem? (i := 0) rfl)))
theorem mw_X6_copy_1 : (Cond.fieldLink RX6 9 "AnagramButcher$WordRow" "words" "[J" : Cond) ∈ wsX6_copy := (List.mem_cons_of_mem _ (List.mem_append_left _ (List.mem_of_getElem? (i := 1) rfl)))
theorem mi_X6_copy_X6 : ∀ w ∈ wsX60, w ∈ wsX6_copy := fun _ h => (List.mem_cons_of_mem _ (List.mem_append_right _ h))
set_option maxHeartbeats 4000000 in
set_option maxRecDepth 100000 in
theorem w_X6_copy_L10 {x : Cx} (hf : fx x (rm_X6_copy) RX6 cX6_copy wsX6_copy) (hn : xn x = 3) {k0 n0 : Nat} (hk : k0 ≤ (rm_X6_copy).cells ∧ n0 ≤ (rm_X6_copy).slots) (a0 a1 a2 a3 : Nat) (v0 : Int32) (v3 : Nat → Int64) (v2 : Int32) {K36 : (Nat → Int64) → Prop}
    (n : Nat) (z2 : Int32) (v1 : Nat → Int64) (h : P_X6_copy_L10 v0 v3 K36 n z2 v1)
    (hK36 : ∀ (uv1 : Nat → Int64), K36 uv1 → ww x (W_X6_copy (xg x) a0 a1 a2 a3 v0 uv1 v2 v3) [] k0 n0 36 []) :
    ww x (W_X6_copy (xg x) a0 a1 a2 a3 v0 v1 v2 v3) [(0, .ref a0), (1, .ref a2), (2, .int z2)] k0 n0 10 [] := by
  induction n generalizing z2 v1 with
  | zero => exact h.elim
  | succ n ih =>
    unfold P_X6_copy_L10 at h
    refine xw_iload_n hf (pc := 10) dX6_copy_10 rfl 2 rfl ?_
    refine xw_aload_n hf (pc := 11) dX6_copy_11 rfl 0 rfl ?_
    refine xw_get hf (pc := 12) dX6_copy_12 (T := TX6) mi_X6_copy_X6 rfl 0 rfl 1 (by decide) rfl mw_X6_copy_0 rfl ?_
    refine xw_icmp_ge hf (pc := 15) dX6_copy_15 (tgt := 36) rfl ⟨fun c => ?_, fun c => ?_⟩
    · have h := h.1 c
      refine xw_L [] rfl ?_
      exact hK36 _ h
    · have h := h.2 c
      refine xw_aload_n hf (pc := 18) dX6_copy_18 rfl 0 rfl ?_
      refine xw_get hf (pc := 19) dX6_copy_19 (T := TX6) mi_X6_copy_X6 rfl 0 rfl 0 (by decide) rfl mw_X6_copy_1 rfl ?_
      refine xw_iload_n hf (pc := 22) dX6_copy_22 rfl 2 rfl ?_
      refine xw_aload_n hf (pc := 23) dX6_copy_23 rfl 1 rfl ?_
      refine xw_get hf (pc := 24) dX6_copy_24 (T := TX6) mi_X6_copy_X6 rfl 2 rfl 0 (by decide) rfl mw_X6_copy_1 rfl ?_
      refine xw_iload_n hf (pc := 27) dX6_copy_27 rfl 2 rfl ?_
      refine xw_lald hf (pc := 28) dX6_copy_28 3 rfl h.1 ?_
      have h := h.2
      refine xw_last hf (pc := 29) dX6_copy_29 1 rfl h.1 (W_X6_copy (xg x) a0 a1 a2 a3 v0 (vp_updL v1 z2.toNatClampNeg (v3 z2.toNatClampNeg)) v2 v3) rfl ?_
      have h := h.2
      refine xw_iinc hf (pc := 30) dX6_copy_30 (v := z2 + 1) 2 rfl rfl [(2, .int (z2 + 1)), (0, .ref a0), (1, .ref a2)] hn (by decide) rfl ?_
      refine xw_goto hf (pc := 33) dX6_copy_33 (tgt := 10) rfl ?_
      refine xw_L [1, 2, 0] rfl ?_
      exact ih _ _ h
set_option maxHeartbeats 4000000 in
set_option maxRecDepth 100000 in
theorem c_X6_copy (l : Launch) (g : Gx) (a0 a1 a2 a3 : Nat) (v0 : Int32) (v1 : Nat → Int64) (v2 : Int32) (v3 : Nat → Int64) {post : Int32 → (Nat → Int64) → Prop} (h : P_X6_copy post v0 v1 v2 v3) : cm l g yX6_copy wsX6_copy (rm_X6_copy) [.ref a0, .ref a2] (W_X6_copy g a0 a1 a2 a3 v0 v1 v2 v3) (fun v X1 => ∃ (uv0 : Int32) (uv1 : Nat → Int64), v = none ∧ X1 = W_X6_copy g a0 a1 a2 a3 uv0 uv1 v2 v3 ∧ post uv0 uv1) := by
  refine cm_of (cc := cX6_copy) (nL := 3) (ret := none) (by decide +kernel) rfl (Nat.le_of_ble_eq_true rfl) ?_
  intro x hf hl hg hn hi hr
  subst hl
  subst hg
  show ww x (W_X6_copy (xg x) a0 a1 a2 a3 v0 v1 v2 v3) [(0, .ref a0), (1, .ref a2)] 0 0 0 []
  unfold P_X6_copy at h
  refine xw_aload_n hf (pc := 0) dX6_copy_0 rfl 0 rfl ?_
  refine xw_aload_n hf (pc := 1) dX6_copy_1 rfl 1 rfl ?_
  refine xw_get hf (pc := 2) dX6_copy_2 (T := TX6) mi_X6_copy_X6 rfl 2 rfl 1 (by decide) rfl mw_X6_copy_0 rfl ?_
  refine xw_put hf (pc := 5) dX6_copy_5 (T := TX6) mi_X6_copy_X6 rfl tyX6_ok nmX6 0 rfl 1 (by decide) rfl mw_X6_copy_0 rfl rfl rfl rfl (Nat.le_of_ble_eq_true rfl) (W_X6_copy (xg x) a0 a1 a2 a3 v2 v1 v2 v3) rfl ?_
  refine xw_iconst hf (pc := 8) dX6_copy_8 (v := 0) (by decide) ?_
  refine xw_istore_n hf (pc := 9) dX6_copy_9 rfl [(2, .int 0), (0, .ref a0), (1, .ref a2)] hn (by decide) rfl ?_
  refine xw_L [1, 2, 0] rfl ?_
  refine w_X6_copy_L10 hf hn ⟨(Nat.le_of_ble_eq_true rfl), (Nat.le_of_ble_eq_true rfl)⟩ a0 a1 a2 a3 v2 v3 v2 FU _ _ h (fun w1 h => ?_)
  exact xw_vret hf (pc := 36) dX6_copy_36 hr (Nat.le_of_ble_eq_true rfl) (Nat.le_of_ble_eq_true rfl) ⟨_, _, rfl, rfl, h⟩
