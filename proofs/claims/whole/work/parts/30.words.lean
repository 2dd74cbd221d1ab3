abbrev W_X7_lengthOf (g : Gx) : va_W := []
abbrev rm_X7_lengthOf : Room := { frames := 0, cells := 0, slots := 0, locals := 0 }
set_option maxHeartbeats 4000000 in
set_option maxRecDepth 100000 in
theorem w_X7_lengthOf_L2 {x : Cx} (hf : fx x (rm_X7_lengthOf) RX7 cX7_lengthOf wsX7_lengthOf) (hn : xn x = 3) {k0 n0 : Nat} (hk : k0 ≤ (rm_X7_lengthOf).cells ∧ n0 ≤ (rm_X7_lengthOf).slots) (z0 : Int64) {K24 : Int32 → Prop}
    (n : Nat) (z2 : Int32) (h : P_X7_lengthOf_L2 z0 K24 n z2)
    (hK24 : ∀ (y2 : Int32), K24 y2 → ww x (W_X7_lengthOf (xg x)) [(2, .int y2)] k0 n0 24 []) :
    ww x (W_X7_lengthOf (xg x)) [(0, .long z0), (2, .int z2)] k0 n0 2 [] := by
  induction n generalizing z2 with
  | zero => exact h.elim
  | succ n ih =>
    unfold P_X7_lengthOf_L2 at h
    refine xw_iload_n hf (pc := 2) dX7_lengthOf_2 rfl 1 rfl ?_
    refine xw_bipush hf (pc := 3) dX7_lengthOf_3 (v := 12) (by decide) ?_
    refine xw_icmp_ge hf (pc := 5) dX7_lengthOf_5 (tgt := 24) rfl ⟨fun c => ?_, fun c => ?_⟩
    · have h := h.1 c
      refine xw_L [1] rfl ?_
      exact hK24 _ h
    · have h := h.2 c
      refine xw_lload_n hf (pc := 8) dX7_lengthOf_8 rfl 0 rfl ?_
      refine xw_iconst hf (pc := 9) dX7_lengthOf_9 (v := 5) (by decide) ?_
      refine xw_iload_n hf (pc := 10) dX7_lengthOf_10 rfl 1 rfl ?_
      refine xw_imul hf (pc := 11) dX7_lengthOf_11 ?_
      refine xw_lushr hf (pc := 12) dX7_lengthOf_12 ?_
      refine xw_lconst hf (pc := 13) dX7_lengthOf_13 (v := 0) (by decide) ?_
      refine xw_lcmp hf (pc := 14) dX7_lengthOf_14 ?_
      refine xw_if_eq hf (pc := 15) dX7_lengthOf_15 (c := ((z0.toUInt64 >>> ((5 * z2).toInt64.toUInt64 &&& Int64.toUInt64 63)).toInt64) = 0) (lc_eq _ _) (tgt := 24) rfl ⟨fun c => ?_, fun c => ?_⟩
      · have h := h.1 c
        refine xw_L [1] rfl ?_
        exact hK24 _ h
      · have h := h.2 c
        refine xw_iinc hf (pc := 18) dX7_lengthOf_18 (v := z2 + 1) 1 rfl rfl [(2, .int (z2 + 1)), (0, .long z0)] hn (by decide) rfl ?_
        refine xw_goto hf (pc := 21) dX7_lengthOf_21 (tgt := 2) rfl ?_
        refine xw_L [1, 0] rfl ?_
        exact ih _ h
set_option maxHeartbeats 4000000 in
set_option maxRecDepth 100000 in
theorem c_X7_lengthOf (l : Launch) (g : Gx) (p0 : Int64) {post : Int32 → Prop} (h : P_X7_lengthOf post p0 ) : cm l g yX7_lengthOf wsX7_lengthOf (rm_X7_lengthOf) [.long p0] (W_X7_lengthOf g) (fun v X1 => ∃ (r : Int32), v = some (.int r) ∧ X1 = W_X7_lengthOf g ∧ post r) := by
  refine cm_of (cc := cX7_lengthOf) (nL := 3) (ret := (some .int)) (by decide +kernel) rfl (Nat.le_of_ble_eq_true rfl) ?_
  intro x hf hl hg hn hi hr
  subst hl
  subst hg
  show ww x (W_X7_lengthOf (xg x)) [(0, .long p0)] 0 0 0 []
  unfold P_X7_lengthOf at h
  refine xw_iconst hf (pc := 0) dX7_lengthOf_0 (v := 0) (by decide) ?_
  refine xw_istore_n hf (pc := 1) dX7_lengthOf_1 rfl [(2, .int 0), (0, .long p0)] hn (by decide) rfl ?_
  refine xw_L [1, 0] rfl ?_
  refine w_X7_lengthOf_L2 hf hn ⟨(Nat.le_of_ble_eq_true rfl), (Nat.le_of_ble_eq_true rfl)⟩ p0 FU _ h (fun x1 h => ?_)
  refine xw_iload_n hf (pc := 24) dX7_lengthOf_24 rfl 0 rfl ?_
  exact xw_iret hf (pc := 25) dX7_lengthOf_25 hr (Nat.le_of_ble_eq_true rfl) (Nat.le_of_ble_eq_true rfl) ⟨_, rfl, rfl, h⟩
abbrev W_X7_letter (g : Gx) : va_W := []
abbrev rm_X7_letter : Room := { frames := 0, cells := 0, slots := 0, locals := 0 }
set_option maxHeartbeats 4000000 in
set_option maxRecDepth 100000 in
theorem c_X7_letter (l : Launch) (g : Gx) (p0 : Int64) (p2 : Int32) {post : Int32 → Prop} (h : P_X7_letter post p0 p2 ) : cm l g yX7_letter wsX7_letter (rm_X7_letter) [.long p0, .int p2] (W_X7_letter g) (fun v X1 => ∃ (r : Int32), v = some (.int r) ∧ X1 = W_X7_letter g ∧ post r) := by
  refine cm_of (cc := cX7_letter) (nL := 3) (ret := (some .int)) (by decide +kernel) rfl (Nat.le_of_ble_eq_true rfl) ?_
  intro x hf hl hg hn hi hr
  subst hl
  subst hg
  show ww x (W_X7_letter (xg x)) [(0, .long p0), (2, .int p2)] 0 0 0 []
  unfold P_X7_letter at h
  refine xw_lload_n hf (pc := 0) dX7_letter_0 rfl 0 rfl ?_
  refine xw_iconst hf (pc := 1) dX7_letter_1 (v := 5) (by decide) ?_
  refine xw_iload_n hf (pc := 2) dX7_letter_2 rfl 1 rfl ?_
  refine xw_imul hf (pc := 3) dX7_letter_3 ?_
  refine xw_lushr hf (pc := 4) dX7_letter_4 ?_
  refine xw_l2i hf (pc := 5) dX7_letter_5 ?_
  refine xw_bipush hf (pc := 6) dX7_letter_6 (v := 31) (by decide) ?_
  refine xw_iand hf (pc := 8) dX7_letter_8 ?_
  exact xw_iret hf (pc := 9) dX7_letter_9 hr (Nat.le_of_ble_eq_true rfl) (Nat.le_of_ble_eq_true rfl) ⟨_, rfl, rfl, h⟩
abbrev W_X7_rank (g : Gx) : va_W := []
abbrev rm_X7_rank : Room := { frames := 1, cells := 0, slots := 0, locals := 22 }
set_option maxHeartbeats 4000000 in
set_option maxRecDepth 100000 in
theorem c_X7_rank (l : Launch) (g : Gx) (p0 : Int64) {post : Int64 → Prop} (h : P_X7_rank post p0 ) : cm l g yX7_rank wsX7_rank (rm_X7_rank) [.long p0] (W_X7_rank g) (fun v X1 => ∃ (r : Int64), v = some (.long r) ∧ X1 = W_X7_rank g ∧ post r) := by
  refine cm_of (cc := cX7_rank) (nL := 2) (ret := (some .long)) (by decide +kernel) rfl (Nat.le_of_ble_eq_true rfl) ?_
  intro x hf hl hg hn hi hr
  subst hl
  subst hg
  show ww x (W_X7_rank (xg x)) [(0, .long p0)] 0 0 0 []
  unfold P_X7_rank at h
  refine xw_lload_n hf (pc := 0) dX7_rank_0 rfl 0 rfl ?_
  refine xw_iconst hf (pc := 1) dX7_rank_1 (v := 5) (by decide) ?_
  refine xw_bipush hf (pc := 2) dX7_rank_2 (v := 12) (by decide) ?_
  refine xw_lload_n hf (pc := 4) dX7_rank_4 rfl 0 rfl ?_
  refine xw_callS hf (pc := 5) (nA := 1) (Xr := W_X7_rank (xg x)) (rest := [.int 12, .int 5, .long p0]) (c_X7_lengthOf (xl x) (xg x) p0 h) gX7_rank_X7_lengthOf (by rfl) rfl (by decide +kernel) ⟨⟨(Nat.le_of_ble_eq_true rfl), (Nat.le_of_ble_eq_true rfl)⟩, (Nat.le_of_ble_eq_true rfl), (Nat.le_of_ble_eq_true rfl)⟩ (Nat.le_of_ble_eq_true rfl) (sb_rf _) rfl dX7_rank_5 (fun v X1 hp => ?_)
  obtain ⟨r1, rfl, rfl, h⟩ := hp
  show ww x (W_X7_rank (xg x)) [(0, .long p0)] 0 0 8 [.int r1, .int 12, .int 5, .long p0]
  refine xw_isub hf (pc := 8) dX7_rank_8 ?_
  refine xw_imul hf (pc := 9) dX7_rank_9 ?_
  refine xw_lshl hf (pc := 10) dX7_rank_10 ?_
  exact xw_lret hf (pc := 11) dX7_rank_11 hr (Nat.le_of_ble_eq_true rfl) (Nat.le_of_ble_eq_true rfl) ⟨_, rfl, rfl, h⟩
abbrev W_X7_occurrences (g : Gx) : va_W := []
abbrev rm_X7_occurrences : Room := { frames := 1, cells := 0, slots := 0, locals := 22 }
set_option maxHeartbeats 4000000 in
set_option maxRecDepth 100000 in
theorem w_X7_occurrences_L11 {x : Cx} (hf : fx x (rm_X7_occurrences) RX7 cX7_occurrences wsX7_occurrences) (hn : xn x = 6) {k0 n0 : Nat} (hk : k0 ≤ (rm_X7_occurrences).cells ∧ n0 ≤ (rm_X7_occurrences).slots) (z0 : Int64) (z2 : Int32) (z3 : Int32) {K36 : Int32 → Prop}
    (n : Nat) (z4 : Int32) (z5 : Int32) (h : P_X7_occurrences_L11 z0 z2 z3 K36 n z4 z5)
    (hK36 : ∀ (y4 : Int32), K36 y4 → ww x (W_X7_occurrences (xg x)) [(4, .int y4)] k0 n0 36 []) :
    ww x (W_X7_occurrences (xg x)) [(0, .long z0), (2, .int z2), (3, .int z3), (4, .int z4), (5, .int z5)] k0 n0 11 [] := by
  induction n generalizing z4 z5 with
  | zero => exact h.elim
  | succ n ih =>
    unfold P_X7_occurrences_L11 at h
    refine xw_iload hf (pc := 11) dX7_occurrences_11 4 rfl ?_
    refine xw_iload_n hf (pc := 13) dX7_occurrences_13 rfl 2 rfl ?_
    refine xw_icmp_ge hf (pc := 14) dX7_occurrences_14 (tgt := 36) rfl ⟨fun c => ?_, fun c => ?_⟩
    · have h := h.1 c
      refine xw_L [3] rfl ?_
      exact hK36 _ h
    · have h := h.2 c
      refine xw_lload_n hf (pc := 17) dX7_occurrences_17 rfl 0 rfl ?_
      refine xw_iload hf (pc := 18) dX7_occurrences_18 4 rfl ?_
      refine xw_callS hf (pc := 20) (nA := 2) (Xr := W_X7_occurrences (xg x)) (rest := []) (c_X7_letter (xl x) (xg x) z0 z5 h) gX7_occurrences_X7_letter (by rfl) rfl (by decide +kernel) ⟨⟨(Nat.le_of_ble_eq_true rfl), (Nat.le_of_ble_eq_true rfl)⟩, hk.1, hk.2⟩ (Nat.le_of_ble_eq_true rfl) (sb_rf _) rfl dX7_occurrences_20 (fun v X1 hp => ?_)
      obtain ⟨r2, rfl, rfl, h⟩ := hp
      show ww x (W_X7_occurrences (xg x)) [(0, .long z0), (2, .int z2), (3, .int z3), (4, .int z4), (5, .int z5)] k0 n0 23 [.int r2]
      refine xw_iload_n hf (pc := 23) dX7_occurrences_23 rfl 1 rfl ?_
      refine xw_icmp_ne hf (pc := 24) dX7_occurrences_24 (tgt := 30) rfl ⟨fun c => ?_, fun c => ?_⟩
      · have h := h.1 c
        refine xw_iinc hf (pc := 27) dX7_occurrences_27 (v := z4 + 1) 3 rfl rfl [(4, .int (z4 + 1)), (0, .long z0), (2, .int z2), (3, .int z3), (5, .int z5)] hn (by decide) rfl ?_
        refine xw_iinc hf (pc := 30) dX7_occurrences_30 (v := z5 + 1) 4 rfl rfl [(5, .int (z5 + 1)), (4, .int (z4 + 1)), (0, .long z0), (2, .int z2), (3, .int z3)] hn (by decide) rfl ?_
        refine xw_goto hf (pc := 33) dX7_occurrences_33 (tgt := 11) rfl ?_
        refine xw_L [2, 3, 4, 1, 0] rfl ?_
        exact ih _ _ h
      · have h := h.2 c
        refine xw_iinc hf (pc := 30) dX7_occurrences_30 (v := z5 + 1) 4 rfl rfl [(5, .int (z5 + 1)), (0, .long z0), (2, .int z2), (3, .int z3), (4, .int z4)] hn (by decide) rfl ?_
        refine xw_goto hf (pc := 33) dX7_occurrences_33 (tgt := 11) rfl ?_
        refine xw_L [1, 2, 3, 4, 0] rfl ?_
        exact ih _ _ h
set_option maxHeartbeats 4000000 in
set_option maxRecDepth 100000 in
theorem c_X7_occurrences (l : Launch) (g : Gx) (p0 : Int64) (p2 : Int32) {post : Int32 → Prop} (h : P_X7_occurrences post p0 p2 ) : cm l g yX7_occurrences wsX7_occurrences (rm_X7_occurrences) [.long p0, .int p2] (W_X7_occurrences g) (fun v X1 => ∃ (r : Int32), v = some (.int r) ∧ X1 = W_X7_occurrences g ∧ post r) := by
  refine cm_of (cc := cX7_occurrences) (nL := 6) (ret := (some .int)) (by decide +kernel) rfl (Nat.le_of_ble_eq_true rfl) ?_
  intro x hf hl hg hn hi hr
  subst hl
  subst hg
  show ww x (W_X7_occurrences (xg x)) [(0, .long p0), (2, .int p2)] 0 0 0 []
  unfold P_X7_occurrences at h
  refine xw_lload_n hf (pc := 0) dX7_occurrences_0 rfl 0 rfl ?_
  refine xw_callS hf (pc := 1) (nA := 1) (Xr := W_X7_occurrences (xg x)) (rest := []) (c_X7_lengthOf (xl x) (xg x) p0 h) gX7_occurrences_X7_lengthOf (by rfl) rfl (by decide +kernel) ⟨⟨(Nat.le_of_ble_eq_true rfl), (Nat.le_of_ble_eq_true rfl)⟩, (Nat.le_of_ble_eq_true rfl), (Nat.le_of_ble_eq_true rfl)⟩ (Nat.le_of_ble_eq_true rfl) (sb_rf _) rfl dX7_occurrences_1 (fun v X1 hp => ?_)
  obtain ⟨r1, rfl, rfl, h⟩ := hp
  show ww x (W_X7_occurrences (xg x)) [(0, .long p0), (2, .int p2)] 0 0 4 [.int r1]
  refine xw_istore_n hf (pc := 4) dX7_occurrences_4 rfl [(3, .int r1), (0, .long p0), (2, .int p2)] hn (by decide) rfl ?_
  refine xw_iconst hf (pc := 5) dX7_occurrences_5 (v := 0) (by decide) ?_
  refine xw_istore hf (pc := 6) dX7_occurrences_6 [(4, .int 0), (3, .int r1), (0, .long p0), (2, .int p2)] hn (by decide) rfl ?_
  refine xw_iconst hf (pc := 8) dX7_occurrences_8 (v := 0) (by decide) ?_
  refine xw_istore hf (pc := 9) dX7_occurrences_9 [(5, .int 0), (4, .int 0), (3, .int r1), (0, .long p0), (2, .int p2)] hn (by decide) rfl ?_
  refine xw_L [3, 4, 2, 1, 0] rfl ?_
  refine w_X7_occurrences_L11 hf hn ⟨(Nat.le_of_ble_eq_true rfl), (Nat.le_of_ble_eq_true rfl)⟩ p0 p2 r1 FU _ _ h (fun x3 h => ?_)
  refine xw_iload hf (pc := 36) dX7_occurrences_36 0 rfl ?_
  exact xw_iret hf (pc := 38) dX7_occurrences_38 hr (Nat.le_of_ble_eq_true rfl) (Nat.le_of_ble_eq_true rfl) ⟨_, rfl, rfl, h⟩
abbrev W_X7_isWord (g : Gx) : va_W := []
abbrev rm_X7_isWord : Room := { frames := 1, cells := 0, slots := 0, locals := 22 }
theorem mw_X7_isWord_0 : (Cond.constantLong RX7 9 (1152921504606846976) : Cond) ∈ wsX7_isWord := (List.mem_cons_of_mem _ (List.mem_of_getElem? (i := 0) rfl))
set_option maxHeartbeats 4000000 in
set_option maxRecDepth 100000 in
theorem w_X7_isWord_L23 {x : Cx} (hf : fx x (rm_X7_isWord) RX7 cX7_isWord wsX7_isWord) (hn : xn x = 5) {k0 n0 : Nat} (hk : k0 ≤ (rm_X7_isWord).cells ∧ n0 ≤ (rm_X7_isWord).slots) (z0 : Int64) (z2 : Int32) {K48 : Prop} {K56 : Prop}
    (n : Nat) (z3 : Int32) (h : P_X7_isWord_L23 z0 z2 K48 K56 n z3)
    (hK48 : K48 → ww x (W_X7_isWord (xg x)) [] k0 n0 48 [])
    (hK56 : K56 → ww x (W_X7_isWord (xg x)) [] k0 n0 56 []) :
    ww x (W_X7_isWord (xg x)) [(0, .long z0), (2, .int z2), (3, .int z3)] k0 n0 23 [] := by
  induction n generalizing z3 with
  | zero => exact h.elim
  | succ n ih =>
    unfold P_X7_isWord_L23 at h
    refine xw_iload_n hf (pc := 23) dX7_isWord_23 rfl 2 rfl ?_
    refine xw_iload_n hf (pc := 24) dX7_isWord_24 rfl 1 rfl ?_
    refine xw_icmp_ge hf (pc := 25) dX7_isWord_25 (tgt := 56) rfl ⟨fun c => ?_, fun c => ?_⟩
    · have h := h.1 c
      refine xw_L [] rfl ?_
      exact hK56 h
    · have h := h.2 c
      refine xw_lload_n hf (pc := 28) dX7_isWord_28 rfl 0 rfl ?_
      refine xw_iload_n hf (pc := 29) dX7_isWord_29 rfl 2 rfl ?_
      refine xw_callS hf (pc := 30) (nA := 2) (Xr := W_X7_isWord (xg x)) (rest := []) (c_X7_letter (xl x) (xg x) z0 z3 h) gX7_isWord_X7_letter (by rfl) rfl (by decide +kernel) ⟨⟨(Nat.le_of_ble_eq_true rfl), (Nat.le_of_ble_eq_true rfl)⟩, hk.1, hk.2⟩ (Nat.le_of_ble_eq_true rfl) (sb_rf _) rfl dX7_isWord_30 (fun v X1 hp => ?_)
      obtain ⟨r2, rfl, rfl, h⟩ := hp
      show ww x (W_X7_isWord (xg x)) [(0, .long z0), (2, .int z2), (3, .int z3)] k0 n0 33 [.int r2]
      refine xw_istore hf (pc := 33) dX7_isWord_33 [(4, .int r2), (0, .long z0), (2, .int z2), (3, .int z3)] hn (by decide) rfl ?_
      refine xw_iload hf (pc := 35) dX7_isWord_35 0 rfl ?_
      refine xw_iconst hf (pc := 37) dX7_isWord_37 (v := 1) (by decide) ?_
      refine xw_icmp_lt hf (pc := 38) dX7_isWord_38 (tgt := 48) rfl ⟨fun c => ?_, fun c => ?_⟩
      · have h := h.1 c
        refine xw_L [] rfl ?_
        exact hK48 h
      · have h := h.2 c
        refine xw_iload hf (pc := 41) dX7_isWord_41 0 rfl ?_
        refine xw_bipush hf (pc := 43) dX7_isWord_43 (v := 26) (by decide) ?_
        refine xw_icmp_le hf (pc := 45) dX7_isWord_45 (tgt := 50) rfl ⟨fun c => ?_, fun c => ?_⟩
        · have h := h.1 c
          refine xw_iinc hf (pc := 50) dX7_isWord_50 (v := z3 + 1) 3 rfl rfl [(3, .int (z3 + 1)), (4, .int r2), (0, .long z0), (2, .int z2)] hn (by decide) rfl ?_
          refine xw_goto hf (pc := 53) dX7_isWord_53 (tgt := 23) rfl ?_
          refine xw_L [2, 3, 0] rfl ?_
          exact ih _ h
        · have h := h.2 c
          refine xw_L [] rfl ?_
          exact hK48 h
set_option maxHeartbeats 4000000 in
set_option maxRecDepth 100000 in
theorem c_X7_isWord (l : Launch) (g : Gx) (p0 : Int64) {post : Int32 → Prop} (h : P_X7_isWord post p0 ) : cm l g yX7_isWord wsX7_isWord (rm_X7_isWord) [.long p0] (W_X7_isWord g) (fun v X1 => ∃ (r : Int32), v = some (.int r) ∧ X1 = W_X7_isWord g ∧ post r) := by
  refine cm_of (cc := cX7_isWord) (nL := 5) (ret := (some .boolean)) (by decide +kernel) rfl (Nat.le_of_ble_eq_true rfl) ?_
  intro x hf hl hg hn hi hr
  subst hl
  subst hg
  show ww x (W_X7_isWord (xg x)) [(0, .long p0)] 0 0 0 []
  unfold P_X7_isWord at h
  refine xw_lload_n hf (pc := 0) dX7_isWord_0 rfl 0 rfl ?_
  refine xw_lconst hf (pc := 1) dX7_isWord_1 (v := 0) (by decide) ?_
  refine xw_lcmp hf (pc := 2) dX7_isWord_2 ?_
  refine xw_if_le hf (pc := 3) dX7_isWord_3 (c := p0 ≤ 0) (lc_le _ _) (tgt := 14) rfl ⟨fun c => ?_, fun c => ?_⟩
  · have h := h.1 c
    refine xw_iconst hf (pc := 14) dX7_isWord_14 (v := 0) (by decide) ?_
    exact xw_zret hf (pc := 15) dX7_isWord_15 hr (Nat.le_of_ble_eq_true rfl) (Nat.le_of_ble_eq_true rfl) rfl ⟨_, rfl, rfl, h⟩
  · have h := h.2 c
    refine xw_lload_n hf (pc := 6) dX7_isWord_6 rfl 0 rfl ?_
    refine xw_ldc2 hf (pc := 7) dX7_isWord_7 mw_X7_isWord_0 ?_
    refine xw_lcmp hf (pc := 10) dX7_isWord_10 ?_
    refine xw_if_lt hf (pc := 11) dX7_isWord_11 (c := p0 < 1152921504606846976) (lc_lt _ _) (tgt := 16) rfl ⟨fun c => ?_, fun c => ?_⟩
    · have h := h.1 c
      refine xw_lload_n hf (pc := 16) dX7_isWord_16 rfl 0 rfl ?_
      refine xw_callS hf (pc := 17) (nA := 1) (Xr := W_X7_isWord (xg x)) (rest := []) (c_X7_lengthOf (xl x) (xg x) p0 h) gX7_isWord_X7_lengthOf (by rfl) rfl (by decide +kernel) ⟨⟨(Nat.le_of_ble_eq_true rfl), (Nat.le_of_ble_eq_true rfl)⟩, (Nat.le_of_ble_eq_true rfl), (Nat.le_of_ble_eq_true rfl)⟩ (Nat.le_of_ble_eq_true rfl) (sb_rf _) rfl dX7_isWord_17 (fun v X1 hp => ?_)
      obtain ⟨r1, rfl, rfl, h⟩ := hp
      show ww x (W_X7_isWord (xg x)) [(0, .long p0)] 0 0 20 [.int r1]
      refine xw_istore_n hf (pc := 20) dX7_isWord_20 rfl [(2, .int r1), (0, .long p0)] hn (by decide) rfl ?_
      refine xw_iconst hf (pc := 21) dX7_isWord_21 (v := 0) (by decide) ?_
      refine xw_istore_n hf (pc := 22) dX7_isWord_22 rfl [(3, .int 0), (2, .int r1), (0, .long p0)] hn (by decide) rfl ?_
      refine xw_L [2, 1, 0] rfl ?_
      refine w_X7_isWord_L23 hf hn ⟨(Nat.le_of_ble_eq_true rfl), (Nat.le_of_ble_eq_true rfl)⟩ p0 r1 FU _ h (fun h => ?_) (fun h => ?_)
      · refine xw_iconst hf (pc := 48) dX7_isWord_48 (v := 0) (by decide) ?_
        exact xw_zret hf (pc := 49) dX7_isWord_49 hr (Nat.le_of_ble_eq_true rfl) (Nat.le_of_ble_eq_true rfl) rfl ⟨_, rfl, rfl, h⟩
      · refine xw_iconst hf (pc := 56) dX7_isWord_56 (v := 1) (by decide) ?_
        exact xw_zret hf (pc := 57) dX7_isWord_57 hr (Nat.le_of_ble_eq_true rfl) (Nat.le_of_ble_eq_true rfl) rfl ⟨_, rfl, rfl, h⟩
    · have h := h.2 c
      refine xw_iconst hf (pc := 14) dX7_isWord_14 (v := 0) (by decide) ?_
      exact xw_zret hf (pc := 15) dX7_isWord_15 hr (Nat.le_of_ble_eq_true rfl) (Nat.le_of_ble_eq_true rfl) rfl ⟨_, rfl, rfl, h⟩
abbrev W_X2_count (g : Gx) (a0 a1 : Nat) (v0 : Nat → Int32) : va_W := [(a0, .inr (3, [.ref a1])), (a1, .inl (gI g, 32, .inl v0))]
abbrev rm_X2_count : Room := { frames := 0, cells := 0, slots := 0, locals := 0 }
theorem mw_X2_count_0 : (Cond.fieldLink RX2 11 "AnagramButcher$Pile" "pieces" "[I" : Cond) ∈ wsX2_count := (List.mem_cons_of_mem _ (List.mem_append_left _ (List.mem_of_getElem? (i := 0) rfl)))
theorem mi_X2_count_X2 : ∀ w ∈ wsX20, w ∈ wsX2_count := fun _ h => (List.mem_cons_of_mem _ (List.mem_append_right _ h))
set_option maxHeartbeats 4000000 in
set_option maxRecDepth 100000 in
theorem c_X2_count (l : Launch) (g : Gx) (a0 a1 : Nat) (v0 : Nat → Int32) (p1 : Int32) {post : Int32 → Prop} (h : P_X2_count post p1 v0) : cm l g yX2_count wsX2_count (rm_X2_count) [.ref a0, .int p1] (W_X2_count g a0 a1 v0) (fun v X1 => ∃ (r : Int32), v = some (.int r) ∧ X1 = W_X2_count g a0 a1 v0 ∧ post r) := by
  refine cm_of (cc := cX2_count) (nL := 2) (ret := (some .int)) (by decide +kernel) rfl (Nat.le_of_ble_eq_true rfl) ?_
  intro x hf hl hg hn hi hr
  subst hl
  subst hg
  show ww x (W_X2_count (xg x) a0 a1 v0) [(0, .ref a0), (1, .int p1)] 0 0 0 []
  unfold P_X2_count at h
  refine xw_aload_n hf (pc := 0) dX2_count_0 rfl 0 rfl ?_
  refine xw_get hf (pc := 1) dX2_count_1 (T := TX2) mi_X2_count_X2 rfl 0 rfl 0 (by decide) rfl mw_X2_count_0 rfl ?_
  refine xw_iload_n hf (pc := 4) dX2_count_4 rfl 1 rfl ?_
  refine xw_bipush hf (pc := 5) dX2_count_5 (v := 31) (by decide) ?_
  refine xw_iand hf (pc := 7) dX2_count_7 ?_
  refine xw_iald hf (pc := 8) dX2_count_8 1 rfl h.1 ?_
  have h := h.2
  exact xw_iret hf (pc := 9) dX2_count_9 hr (Nat.le_of_ble_eq_true rfl) (Nat.le_of_ble_eq_true rfl) ⟨_, rfl, rfl, h⟩
abbrev W_X2_total (g : Gx) (a0 a1 : Nat) (v0 : Nat → Int32) : va_W := [(a0, .inr (3, [.ref a1])), (a1, .inl (gI g, 32, .inl v0))]
abbrev rm_X2_total : Room := { frames := 0, cells := 0, slots := 0, locals := 0 }
theorem mw_X2_total_0 : (Cond.fieldLink RX2 11 "AnagramButcher$Pile" "pieces" "[I" : Cond) ∈ wsX2_total := (List.mem_cons_of_mem _ (List.mem_append_left _ (List.mem_of_getElem? (i := 0) rfl)))
theorem mi_X2_total_X2 : ∀ w ∈ wsX20, w ∈ wsX2_total := fun _ h => (List.mem_cons_of_mem _ (List.mem_append_right _ h))
set_option maxHeartbeats 4000000 in
set_option maxRecDepth 100000 in
theorem w_X2_total_L4 {x : Cx} (hf : fx x (rm_X2_total) RX2 cX2_total wsX2_total) (hn : xn x = 3) {k0 n0 : Nat} (hk : k0 ≤ (rm_X2_total).cells ∧ n0 ≤ (rm_X2_total).slots) (a0 a1 : Nat) (v0 : Nat → Int32) {K25 : Int32 → Prop}
    (n : Nat) (z1 : Int32) (z2 : Int32) (h : P_X2_total_L4 v0 K25 n z1 z2)
    (hK25 : ∀ (y1 : Int32), K25 y1 → ww x (W_X2_total (xg x) a0 a1 v0) [(1, .int y1)] k0 n0 25 []) :
    ww x (W_X2_total (xg x) a0 a1 v0) [(0, .ref a0), (1, .int z1), (2, .int z2)] k0 n0 4 [] := by
  induction n generalizing z1 z2 with
  | zero => exact h.elim
  | succ n ih =>
    unfold P_X2_total_L4 at h
    refine xw_iload_n hf (pc := 4) dX2_total_4 rfl 2 rfl ?_
    refine xw_bipush hf (pc := 5) dX2_total_5 (v := 26) (by decide) ?_
    refine xw_icmp_gt hf (pc := 7) dX2_total_7 (tgt := 25) rfl ⟨fun c => ?_, fun c => ?_⟩
    · have h := h.1 c
      refine xw_L [1] rfl ?_
      exact hK25 _ h
    · have h := h.2 c
      refine xw_iload_n hf (pc := 10) dX2_total_10 rfl 1 rfl ?_
      refine xw_aload_n hf (pc := 11) dX2_total_11 rfl 0 rfl ?_
      refine xw_get hf (pc := 12) dX2_total_12 (T := TX2) mi_X2_total_X2 rfl 0 rfl 0 (by decide) rfl mw_X2_total_0 rfl ?_
      refine xw_iload_n hf (pc := 15) dX2_total_15 rfl 2 rfl ?_
      refine xw_iald hf (pc := 16) dX2_total_16 1 rfl h.1 ?_
      have h := h.2
      refine xw_iadd hf (pc := 17) dX2_total_17 ?_
      refine xw_topi (fun y1 ey1 => ?_)
      have h := h y1 ey1
      refine xw_istore_n hf (pc := 18) dX2_total_18 rfl [(1, .int y1), (0, .ref a0), (2, .int z2)] hn (by decide) rfl ?_
      refine xw_iinc hf (pc := 19) dX2_total_19 (v := z2 + 1) 2 rfl rfl [(2, .int (z2 + 1)), (1, .int y1), (0, .ref a0)] hn (by decide) rfl ?_
      refine xw_goto hf (pc := 22) dX2_total_22 (tgt := 4) rfl ?_
      refine xw_L [2, 1, 0] rfl ?_
      exact ih _ _ h
set_option maxHeartbeats 4000000 in
set_option maxRecDepth 100000 in
theorem c_X2_total (l : Launch) (g : Gx) (a0 a1 : Nat) (v0 : Nat → Int32) {post : Int32 → Prop} (h : P_X2_total post v0) : cm l g yX2_total wsX2_total (rm_X2_total) [.ref a0] (W_X2_total g a0 a1 v0) (fun v X1 => ∃ (r : Int32), v = some (.int r) ∧ X1 = W_X2_total g a0 a1 v0 ∧ post r) := by
  refine cm_of (cc := cX2_total) (nL := 3) (ret := (some .int)) (by decide +kernel) rfl (Nat.le_of_ble_eq_true rfl) ?_
  intro x hf hl hg hn hi hr
  subst hl
  subst hg
  show ww x (W_X2_total (xg x) a0 a1 v0) [(0, .ref a0)] 0 0 0 []
  unfold P_X2_total at h
  refine xw_iconst hf (pc := 0) dX2_total_0 (v := 0) (by decide) ?_
  refine xw_istore_n hf (pc := 1) dX2_total_1 rfl [(1, .int 0), (0, .ref a0)] hn (by decide) rfl ?_
  refine xw_iconst hf (pc := 2) dX2_total_2 (v := 1) (by decide) ?_
  refine xw_istore_n hf (pc := 3) dX2_total_3 rfl [(2, .int 1), (1, .int 0), (0, .ref a0)] hn (by decide) rfl ?_
  refine xw_L [2, 1, 0] rfl ?_
  refine w_X2_total_L4 hf hn ⟨(Nat.le_of_ble_eq_true rfl), (Nat.le_of_ble_eq_true rfl)⟩ a0 a1 v0 FU _ _ h (fun x2 h => ?_)
  refine xw_iload_n hf (pc := 25) dX2_total_25 rfl 0 rfl ?_
  exact xw_iret hf (pc := 26) dX2_total_26 hr (Nat.le_of_ble_eq_true rfl) (Nat.le_of_ble_eq_true rfl) ⟨_, rfl, rfl, h⟩
abbrev W_X2_clear (g : Gx) (a0 a1 : Nat) (v0 : Nat → Int32) : va_W := [(a0, .inr (3, [.ref a1])), (a1, .inl (gI g, 32, .inl v0))]
abbrev rm_X2_clear : Room := { frames := 0, cells := 0, slots := 0, locals := 0 }
theorem mw_X2_clear_0 : (Cond.fieldLink RX2 11 "AnagramButcher$Pile" "pieces" "[I" : Cond) ∈ wsX2_clear := (List.mem_cons_of_mem _ (List.mem_append_left _ (List.mem_of_getElem? (i := 0) rfl)))
theorem mi_X2_clear_X2 : ∀ w ∈ wsX20, w ∈ wsX2_clear := fun _ h => (List.mem_cons_of_mem _ (List.mem_append_right _ h))
set_option maxHeartbeats 4000000 in
set_option maxRecDepth 100000 in
theorem w_X2_clear_L2 {x : Cx} (hf : fx x (rm_X2_clear) RX2 cX2_clear wsX2_clear) (hn : xn x = 2) {k0 n0 : Nat} (hk : k0 ≤ (rm_X2_clear).cells ∧ n0 ≤ (rm_X2_clear).slots) (a0 a1 : Nat) {K21 : (Nat → Int32) → Prop}
    (n : Nat) (z1 : Int32) (v0 : Nat → Int32) (h : P_X2_clear_L2 K21 n z1 v0)
    (hK21 : ∀ (uv0 : Nat → Int32), K21 uv0 → ww x (W_X2_clear (xg x) a0 a1 uv0) [] k0 n0 21 []) :
    ww x (W_X2_clear (xg x) a0 a1 v0) [(0, .ref a0), (1, .int z1)] k0 n0 2 [] := by
  induction n generalizing z1 v0 with
  | zero => exact h.elim
  | succ n ih =>
    unfold P_X2_clear_L2 at h
    refine xw_iload_n hf (pc := 2) dX2_clear_2 rfl 1 rfl ?_
    refine xw_bipush hf (pc := 3) dX2_clear_3 (v := 32) (by decide) ?_
    refine xw_icmp_ge hf (pc := 5) dX2_clear_5 (tgt := 21) rfl ⟨fun c => ?_, fun c => ?_⟩
    · have h := h.1 c
      refine xw_L [] rfl ?_
      exact hK21 _ h
    · have h := h.2 c
      refine xw_aload_n hf (pc := 8) dX2_clear_8 rfl 0 rfl ?_
      refine xw_get hf (pc := 9) dX2_clear_9 (T := TX2) mi_X2_clear_X2 rfl 0 rfl 0 (by decide) rfl mw_X2_clear_0 rfl ?_
      refine xw_iload_n hf (pc := 12) dX2_clear_12 rfl 1 rfl ?_
      refine xw_iconst hf (pc := 13) dX2_clear_13 (v := 0) (by decide) ?_
      refine xw_iast hf (pc := 14) dX2_clear_14 1 rfl h.1 (W_X2_clear (xg x) a0 a1 (upd v0 z1.toNatClampNeg 0)) rfl ?_
      have h := h.2
      refine xw_iinc hf (pc := 15) dX2_clear_15 (v := z1 + 1) 1 rfl rfl [(1, .int (z1 + 1)), (0, .ref a0)] hn (by decide) rfl ?_
      refine xw_goto hf (pc := 18) dX2_clear_18 (tgt := 2) rfl ?_
      refine xw_L [1, 0] rfl ?_
      exact ih _ _ h
set_option maxHeartbeats 4000000 in
set_option maxRecDepth 100000 in
theorem c_X2_clear (l : Launch) (g : Gx) (a0 a1 : Nat) (v0 : Nat → Int32) {post : (Nat → Int32) → Prop} (h : P_X2_clear post v0) : cm l g yX2_clear wsX2_clear (rm_X2_clear) [.ref a0] (W_X2_clear g a0 a1 v0) (fun v X1 => ∃ (uv0 : Nat → Int32), v = none ∧ X1 = W_X2_clear g a0 a1 uv0 ∧ post uv0) := by
  refine cm_of (cc := cX2_clear) (nL := 2) (ret := none) (by decide +kernel) rfl (Nat.le_of_ble_eq_true rfl) ?_
  intro x hf hl hg hn hi hr
  subst hl
  subst hg
  show ww x (W_X2_clear (xg x) a0 a1 v0) [(0, .ref a0)] 0 0 0 []
  unfold P_X2_clear at h
  refine xw_iconst hf (pc := 0) dX2_clear_0 (v := 0) (by decide) ?_
  refine xw_istore_n hf (pc := 1) dX2_clear_1 rfl [(1, .int 0), (0, .ref a0)] hn (by decide) rfl ?_
  refine xw_L [1, 0] rfl ?_
  refine w_X2_clear_L2 hf hn ⟨(Nat.le_of_ble_eq_true rfl), (Nat.le_of_ble_eq_true rfl)⟩ a0 a1 FU _ _ h (fun w1 h => ?_)
  exact xw_vret hf (pc := 21) dX2_clear_21 hr (Nat.le_of_ble_eq_true rfl) (Nat.le_of_ble_eq_true rfl) ⟨_, rfl, rfl, h⟩
abbrev W_X2_putAll (g : Gx) (a0 a1 a2 a3 : Nat) (v0 : Nat → Int32) (v1 : Nat → Int32) : va_W := [(a0, .inr (3, [.ref a1])), (a1, .inl (gI g, 32, .inl v0)), (a2, .inr (3, [.ref a3])), (a3, .inl (gI g, 32, .inl v1))]
abbrev rm_X2_putAll : Room := { frames := 0, cells := 0, slots := 0, locals := 0 }
theorem mw_X2_putAll_0 : (Cond.fieldLink RX2 11 "AnagramButcher$Pile" "pieces" "[I" : Cond) ∈ wsX2_putAll := (List.mem_cons_of_mem _ (List.mem_append_left _ (List.mem_of_getElem? (i := 0) rfl)))
theorem mi_X2_putAll_X2 : ∀ w ∈ wsX20, w ∈ wsX2_putAll := fun _ h => (List.mem_cons_of_mem _ (List.mem_append_right _ h))
set_option maxHeartbeats 4000000 in
set_option maxRecDepth 100000 in
theorem w_X2_putAll_L2 {x : Cx} (hf : fx x (rm_X2_putAll) RX2 cX2_putAll wsX2_putAll) (hn : xn x = 3) {k0 n0 : Nat} (hk : k0 ≤ (rm_X2_putAll).cells ∧ n0 ≤ (rm_X2_putAll).slots) (a0 a1 a2 a3 : Nat) (v1 : Nat → Int32) {K29 : (Nat → Int32) → Prop}
    (n : Nat) (z2 : Int32) (v0 : Nat → Int32) (h : P_X2_putAll_L2 v1 K29 n z2 v0)
    (hK29 : ∀ (uv0 : Nat → Int32), K29 uv0 → ww x (W_X2_putAll (xg x) a0 a1 a2 a3 uv0 v1) [] k0 n0 29 []) :
    ww x (W_X2_putAll (xg x) a0 a1 a2 a3 v0 v1) [(0, .ref a0), (1, .ref a2), (2, .int z2)] k0 n0 2 [] := by
  induction n generalizing z2 v0 with
  | zero => exact h.elim
  | succ n ih =>
    unfold P_X2_putAll_L2 at h
    refine xw_iload_n hf (pc := 2) dX2_putAll_2 rfl 2 rfl ?_
    refine xw_bipush hf (pc := 3) dX2_putAll_3 (v := 26) (by decide) ?_
    refine xw_icmp_gt hf (pc := 5) dX2_putAll_5 (tgt := 29) rfl ⟨fun c => ?_, fun c => ?_⟩
    · have h := h.1 c
      refine xw_L [] rfl ?_
      exact hK29 _ h
    · have h := h.2 c
      refine xw_aload_n hf (pc := 8) dX2_putAll_8 rfl 0 rfl ?_
      refine xw_get hf (pc := 9) dX2_putAll_9 (T := TX2) mi_X2_putAll_X2 rfl 0 rfl 0 (by decide) rfl mw_X2_putAll_0 rfl ?_
      refine xw_iload_n hf (pc := 12) dX2_putAll_12 rfl 2 rfl ?_
      refine xw_dup2 hf (pc := 13) dX2_putAll_13 rfl rfl ?_
      refine xw_iald hf (pc := 14) dX2_putAll_14 1 rfl h.1 ?_
      have h := h.2
      refine xw_aload_n hf (pc := 15) dX2_putAll_15 rfl 1 rfl ?_
      refine xw_get hf (pc := 16) dX2_putAll_16 (T := TX2) mi_X2_putAll_X2 rfl 2 rfl 0 (by decide) rfl mw_X2_putAll_0 rfl ?_
      refine xw_iload_n hf (pc := 19) dX2_putAll_19 rfl 2 rfl ?_
      refine xw_iald hf (pc := 20) dX2_putAll_20 3 rfl h.1 ?_
      have h := h.2
      refine xw_iadd hf (pc := 21) dX2_putAll_21 ?_
      refine xw_iast hf (pc := 22) dX2_putAll_22 1 rfl h.1 (W_X2_putAll (xg x) a0 a1 a2 a3 (upd v0 z2.toNatClampNeg ((v0 z2.toNatClampNeg) + (v1 z2.toNatClampNeg))) v1) rfl ?_
      have h := h.2
      refine xw_iinc hf (pc := 23) dX2_putAll_23 (v := z2 + 1) 2 rfl rfl [(2, .int (z2 + 1)), (0, .ref a0), (1, .ref a2)] hn (by decide) rfl ?_
      refine xw_goto hf (pc := 26) dX2_putAll_26 (tgt := 2) rfl ?_
      refine xw_L [1, 2, 0] rfl ?_
      exact ih _ _ h
set_option maxHeartbeats 4000000 in
set_option maxRecDepth 100000 in
theorem c_X2_putAll (l : Launch) (g : Gx) (a0 a1 a2 a3 : Nat) (v0 : Nat → Int32) (v1 : Nat → Int32) {post : (Nat → Int32) → Prop} (h : P_X2_putAll post v0 v1) : cm l g yX2_putAll wsX2_putAll (rm_X2_putAll) [.ref a0, .ref a2] (W_X2_putAll g a0 a1 a2 a3 v0 v1) (fun v X1 => ∃ (uv0 : Nat → Int32), v = none ∧ X1 = W_X2_putAll g a0 a1 a2 a3 uv0 v1 ∧ post uv0) := by
  refine cm_of (cc := cX2_putAll) (nL := 3) (ret := none) (by decide +kernel) rfl (Nat.le_of_ble_eq_true rfl) ?_
  intro x hf hl hg hn hi hr
  subst hl
  subst hg
  show ww x (W_X2_putAll (xg x) a0 a1 a2 a3 v0 v1) [(0, .ref a0), (1, .ref a2)] 0 0 0 []
  unfold P_X2_putAll at h
  refine xw_iconst hf (pc := 0) dX2_putAll_0 (v := 1) (by decide) ?_
  refine xw_istore_n hf (pc := 1) dX2_putAll_1 rfl [(2, .int 1), (0, .ref a0), (1, .ref a2)] hn (by decide) rfl ?_
  refine xw_L [1, 2, 0] rfl ?_
  refine w_X2_putAll_L2 hf hn ⟨(Nat.le_of_ble_eq_true rfl), (Nat.le_of_ble_eq_true rfl)⟩ a0 a1 a2 a3 v1 FU _ _ h (fun w1 h => ?_)
  exact xw_vret hf (pc := 29) dX2_putAll_29 hr (Nat.le_of_ble_eq_true rfl) (Nat.le_of_ble_eq_true rfl) ⟨_, rfl, rfl, h⟩
abbrev W_X2_put (g : Gx) (a0 a1 : Nat) (v0 : Nat → Int32) : va_W := [(a0, .inr (3, [.ref a1])), (a1, .inl (gI g, 32, .inl v0))]
abbrev rm_X2_put : Room := { frames := 1, cells := 0, slots := 0, locals := 22 }
theorem mw_X2_put_0 : (Cond.fieldLink RX2 11 "AnagramButcher$Pile" "pieces" "[I" : Cond) ∈ wsX2_put := (List.mem_cons_of_mem _ (List.mem_append_left _ (List.mem_of_getElem? (i := 0) rfl)))
theorem mi_X2_put_X2 : ∀ w ∈ wsX20, w ∈ wsX2_put := fun _ h => (List.mem_cons_of_mem _ (List.mem_append_right _ h))
set_option maxHeartbeats 4000000 in
set_option maxRecDepth 100000 in
theorem w_X2_put_L9 {x : Cx} (hf : fx x (rm_X2_put) RX2 cX2_put wsX2_put) (hn : xn x = 6) {k0 n0 : Nat} (hk : k0 ≤ (rm_X2_put).cells ∧ n0 ≤ (rm_X2_put).slots) (a0 a1 : Nat) (z1 : Int64) (z3 : Int32) (z4 : Int32) {K37 : (Nat → Int32) → Prop}
    (n : Nat) (z5 : Int32) (v0 : Nat → Int32) (h : P_X2_put_L9 z1 z3 z4 K37 n z5 v0)
    (hK37 : ∀ (uv0 : Nat → Int32), K37 uv0 → ww x (W_X2_put (xg x) a0 a1 uv0) [] k0 n0 37 []) :
    ww x (W_X2_put (xg x) a0 a1 v0) [(0, .ref a0), (1, .long z1), (3, .int z3), (4, .int z4), (5, .int z5)] k0 n0 9 [] := by
  induction n generalizing z5 v0 with
  | zero => exact h.elim
  | succ n ih =>
    unfold P_X2_put_L9 at h
    refine xw_iload hf (pc := 9) dX2_put_9 4 rfl ?_
    refine xw_iload hf (pc := 11) dX2_put_11 3 rfl ?_
    refine xw_icmp_ge hf (pc := 13) dX2_put_13 (tgt := 37) rfl ⟨fun c => ?_, fun c => ?_⟩
    · have h := h.1 c
      refine xw_L [] rfl ?_
      exact hK37 _ h
    · have h := h.2 c
      refine xw_aload_n hf (pc := 16) dX2_put_16 rfl 0 rfl ?_
      refine xw_get hf (pc := 17) dX2_put_17 (T := TX2) mi_X2_put_X2 rfl 0 rfl 0 (by decide) rfl mw_X2_put_0 rfl ?_
      refine xw_lload_n hf (pc := 20) dX2_put_20 rfl 1 rfl ?_
      refine xw_iload hf (pc := 21) dX2_put_21 4 rfl ?_
      refine xw_callS hf (pc := 23) (nA := 2) (Xr := W_X2_put (xg x) a0 a1 v0) (rest := [.ref a1]) (c_X7_letter (xl x) (xg x) z1 z5 h) gX2_put_X7_letter (by rfl) rfl (by decide +kernel) ⟨⟨(Nat.le_of_ble_eq_true rfl), (Nat.le_of_ble_eq_true rfl)⟩, hk.1, hk.2⟩ (Nat.le_of_ble_eq_true rfl) (sb_rf _) rfl dX2_put_23 (fun v X1 hp => ?_)
      obtain ⟨r2, rfl, rfl, h⟩ := hp
      show ww x (W_X2_put (xg x) a0 a1 v0) [(0, .ref a0), (1, .long z1), (3, .int z3), (4, .int z4), (5, .int z5)] k0 n0 26 [.int r2, .ref a1]
      refine xw_dup2 hf (pc := 26) dX2_put_26 rfl rfl ?_
      refine xw_iald hf (pc := 27) dX2_put_27 1 rfl h.1 ?_
      have h := h.2
      refine xw_iload_n hf (pc := 28) dX2_put_28 rfl 2 rfl ?_
      refine xw_iadd hf (pc := 29) dX2_put_29 ?_
      refine xw_iast hf (pc := 30) dX2_put_30 1 rfl h.1 (W_X2_put (xg x) a0 a1 (upd v0 r2.toNatClampNeg ((v0 r2.toNatClampNeg) + z3))) rfl ?_
      have h := h.2
      refine xw_iinc hf (pc := 31) dX2_put_31 (v := z5 + 1) 4 rfl rfl [(5, .int (z5 + 1)), (0, .ref a0), (1, .long z1), (3, .int z3), (4, .int z4)] hn (by decide) rfl ?_
      refine xw_goto hf (pc := 34) dX2_put_34 (tgt := 9) rfl ?_
      refine xw_L [1, 2, 3, 4, 0] rfl ?_
      exact ih _ _ h
set_option maxHeartbeats 4000000 in
set_option maxRecDepth 100000 in
theorem c_X2_put (l : Launch) (g : Gx) (a0 a1 : Nat) (v0 : Nat → Int32) (p1 : Int64) (p3 : Int32) {post : (Nat → Int32) → Prop} (h : P_X2_put post p1 p3 v0) : cm l g yX2_put wsX2_put (rm_X2_put) [.ref a0, .long p1, .int p3] (W_X2_put g a0 a1 v0) (fun v X1 => ∃ (uv0 : Nat → Int32), v = none ∧ X1 = W_X2_put g a0 a1 uv0 ∧ post uv0) := by
  refine cm_of (cc := cX2_put) (nL := 6) (ret := none) (by decide +kernel) rfl (Nat.le_of_ble_eq_true rfl) ?_
  intro x hf hl hg hn hi hr
  subst hl
  subst hg
  show ww x (W_X2_put (xg x) a0 a1 v0) [(0, .ref a0), (1, .long p1), (3, .int p3)] 0 0 0 []
  unfold P_X2_put at h
  refine xw_lload_n hf (pc := 0) dX2_put_0 rfl 1 rfl ?_
  refine xw_callS hf (pc := 1) (nA := 1) (Xr := W_X2_put (xg x) a0 a1 v0) (rest := []) (c_X7_lengthOf (xl x) (xg x) p1 h) gX2_put_X7_lengthOf (by rfl) rfl (by decide +kernel) ⟨⟨(Nat.le_of_ble_eq_true rfl), (Nat.le_of_ble_eq_true rfl)⟩, (Nat.le_of_ble_eq_true rfl), (Nat.le_of_ble_eq_true rfl)⟩ (Nat.le_of_ble_eq_true rfl) (sb_rf _) rfl dX2_put_1 (fun v X1 hp => ?_)
  obtain ⟨r1, rfl, rfl, h⟩ := hp
  show ww x (W_X2_put (xg x) a0 a1 v0) [(0, .ref a0), (1, .long p1), (3, .int p3)] 0 0 4 [.int r1]
  refine xw_istore hf (pc := 4) dX2_put_4 [(4, .int r1), (0, .ref a0), (1, .long p1), (3, .int p3)] hn (by decide) rfl ?_
  refine xw_iconst hf (pc := 6) dX2_put_6 (v := 0) (by decide) ?_
  refine xw_istore hf (pc := 7) dX2_put_7 [(5, .int 0), (4, .int r1), (0, .ref a0), (1, .long p1), (3, .int p3)] hn (by decide) rfl ?_
  refine xw_L [2, 3, 4, 1, 0] rfl ?_
  refine w_X2_put_L9 hf hn ⟨(Nat.le_of_ble_eq_true rfl), (Nat.le_of_ble_eq_true rfl)⟩ a0 a1 p1 p3 r1 FU _ _ h (fun w3 h => ?_)
  exact xw_vret hf (pc := 37) dX2_put_37 hr (Nat.le_of_ble_eq_true rfl) (Nat.le_of_ble_eq_true rfl) ⟨_, rfl, rfl, h⟩
abbrev W_X2_take (g : Gx) (a0 a1 : Nat) (v0 : Nat → Int32) : va_W := [(a0, .inr (3, [.ref a1])), (a1, .inl (gI g, 32, .inl v0))]
abbrev rm_X2_take : Room := { frames := 1, cells := 0, slots := 0, locals := 22 }
theorem mw_X2_take_0 : (Cond.fieldLink RX2 11 "AnagramButcher$Pile" "pieces" "[I" : Cond) ∈ wsX2_take := (List.mem_cons_of_mem _ (List.mem_append_left _ (List.mem_of_getElem? (i := 0) rfl)))
theorem mi_X2_take_X2 : ∀ w ∈ wsX20, w ∈ wsX2_take := fun _ h => (List.mem_cons_of_mem _ (List.mem_append_right _ h))
set_option maxHeartbeats 4000000 in
set_option maxRecDepth 100000 in
theorem w_X2_take_L8 {x : Cx} (hf : fx x (rm_X2_take) RX2 cX2_take wsX2_take) (hn : xn x = 6) {k0 n0 : Nat} (hk : k0 ≤ (rm_X2_take).cells ∧ n0 ≤ (rm_X2_take).slots) (a0 a1 : Nat) (z1 : Int64) (z3 : Int32) {K49 : Int32 → (Nat → Int32) → Prop}
    (n : Nat) (z4 : Int32) (v0 : Nat → Int32) (h : P_X2_take_L8 z1 z3 K49 n z4 v0)
    (hK49 : ∀ (y4 : Int32), ∀ (uv0 : Nat → Int32), K49 y4 uv0 → ww x (W_X2_take (xg x) a0 a1 uv0) [(0, .ref a0), (1, .long z1), (3, .int z3), (4, .int y4)] k0 n0 49 []) :
    ww x (W_X2_take (xg x) a0 a1 v0) [(0, .ref a0), (1, .long z1), (3, .int z3), (4, .int z4)] k0 n0 8 [] := by
  induction n generalizing z4 v0 with
  | zero => exact h.elim
  | succ n ih =>
    unfold P_X2_take_L8 at h
    refine xw_iload hf (pc := 8) dX2_take_8 3 rfl ?_
    refine xw_iload_n hf (pc := 10) dX2_take_10 rfl 2 rfl ?_
    refine xw_icmp_ge hf (pc := 11) dX2_take_11 (tgt := 49) rfl ⟨fun c => ?_, fun c => ?_⟩
    · have h := h.1 c
      refine xw_L [0, 1, 2, 3] rfl ?_
      exact hK49 _ _ h
    · have h := h.2 c
      refine xw_aload_n hf (pc := 14) dX2_take_14 rfl 0 rfl ?_
      refine xw_get hf (pc := 15) dX2_take_15 (T := TX2) mi_X2_take_X2 rfl 0 rfl 0 (by decide) rfl mw_X2_take_0 rfl ?_
      refine xw_lload_n hf (pc := 18) dX2_take_18 rfl 1 rfl ?_
      refine xw_iload hf (pc := 19) dX2_take_19 3 rfl ?_
      refine xw_callS hf (pc := 21) (nA := 2) (Xr := W_X2_take (xg x) a0 a1 v0) (rest := [.ref a1]) (c_X7_letter (xl x) (xg x) z1 z4 h) gX2_take_X7_letter (by rfl) rfl (by decide +kernel) ⟨⟨(Nat.le_of_ble_eq_true rfl), (Nat.le_of_ble_eq_true rfl)⟩, hk.1, hk.2⟩ (Nat.le_of_ble_eq_true rfl) (sb_rf _) rfl dX2_take_21 (fun v X1 hp => ?_)
      obtain ⟨r2, rfl, rfl, h⟩ := hp
      show ww x (W_X2_take (xg x) a0 a1 v0) [(0, .ref a0), (1, .long z1), (3, .int z3), (4, .int z4)] k0 n0 24 [.int r2, .ref a1]
      refine xw_iald hf (pc := 24) dX2_take_24 1 rfl h.1 ?_
      have h := h.2
      refine xw_if_le hf (pc := 25) dX2_take_25 (c := (v0 r2.toNatClampNeg) ≤ 0) Iff.rfl (tgt := 49) rfl ⟨fun c => ?_, fun c => ?_⟩
      · have h := h.1 c
        refine xw_L [0, 1, 2, 3] rfl ?_
        exact hK49 _ _ h
      · have h := h.2 c
        refine xw_aload_n hf (pc := 28) dX2_take_28 rfl 0 rfl ?_
        refine xw_get hf (pc := 29) dX2_take_29 (T := TX2) mi_X2_take_X2 rfl 0 rfl 0 (by decide) rfl mw_X2_take_0 rfl ?_
        refine xw_lload_n hf (pc := 32) dX2_take_32 rfl 1 rfl ?_
        refine xw_iload hf (pc := 33) dX2_take_33 3 rfl ?_
        refine xw_callS hf (pc := 35) (nA := 2) (Xr := W_X2_take (xg x) a0 a1 v0) (rest := [.ref a1]) (c_X7_letter (xl x) (xg x) z1 z4 h) gX2_take_X7_letter (by rfl) rfl (by decide +kernel) ⟨⟨(Nat.le_of_ble_eq_true rfl), (Nat.le_of_ble_eq_true rfl)⟩, hk.1, hk.2⟩ (Nat.le_of_ble_eq_true rfl) (sb_rf _) rfl dX2_take_35 (fun v X1 hp => ?_)
        obtain ⟨r3, rfl, rfl, h⟩ := hp
        show ww x (W_X2_take (xg x) a0 a1 v0) [(0, .ref a0), (1, .long z1), (3, .int z3), (4, .int z4)] k0 n0 38 [.int r3, .ref a1]
        refine xw_dup2 hf (pc := 38) dX2_take_38 rfl rfl ?_
        refine xw_iald hf (pc := 39) dX2_take_39 1 rfl h.1 ?_
        have h := h.2
        refine xw_iconst hf (pc := 40) dX2_take_40 (v := 1) (by decide) ?_
        refine xw_isub hf (pc := 41) dX2_take_41 ?_
        refine xw_iast hf (pc := 42) dX2_take_42 1 rfl h.1 (W_X2_take (xg x) a0 a1 (upd v0 r3.toNatClampNeg ((v0 r3.toNatClampNeg) - 1))) rfl ?_
        have h := h.2
        refine xw_iinc hf (pc := 43) dX2_take_43 (v := z4 + 1) 3 rfl rfl [(4, .int (z4 + 1)), (0, .ref a0), (1, .long z1), (3, .int z3)] hn (by decide) rfl ?_
        refine xw_goto hf (pc := 46) dX2_take_46 (tgt := 8) rfl ?_
        refine xw_L [1, 2, 3, 0] rfl ?_
        exact ih _ _ h
set_option maxHeartbeats 4000000 in
set_option maxRecDepth 100000 in
theorem w_X2_take_L62 {x : Cx} (hf : fx x (rm_X2_take) RX2 cX2_take wsX2_take) (hn : xn x = 6) {k0 n0 : Nat} (hk : k0 ≤ (rm_X2_take).cells ∧ n0 ≤ (rm_X2_take).slots) (a0 a1 : Nat) (z1 : Int64) (z5 : Int32) {K93 : (Nat → Int32) → Prop}
    (n : Nat) (z4 : Int32) (v0 : Nat → Int32) (h : P_X2_take_L62 z1 z5 K93 n z4 v0)
    (hK93 : ∀ (uv0 : Nat → Int32), K93 uv0 → ww x (W_X2_take (xg x) a0 a1 uv0) [(5, .int z5)] k0 n0 93 []) :
    ww x (W_X2_take (xg x) a0 a1 v0) [(0, .ref a0), (1, .long z1), (4, .int z4), (5, .int z5)] k0 n0 62 [] := by
  induction n generalizing z4 v0 with
  | zero => exact h.elim
  | succ n ih =>
    unfold P_X2_take_L62 at h
    refine xw_iload hf (pc := 62) dX2_take_62 3 rfl ?_
    refine xw_if_ne hf (pc := 64) dX2_take_64 (c := z5 = 0) Iff.rfl (tgt := 93) rfl ⟨fun c => ?_, fun c => ?_⟩
    · have h := h.1 c
      refine xw_iload hf (pc := 67) dX2_take_67 2 rfl ?_
      refine xw_if_le hf (pc := 69) dX2_take_69 (c := z4 ≤ 0) Iff.rfl (tgt := 93) rfl ⟨fun c => ?_, fun c => ?_⟩
      · have h := h.1 c
        refine xw_L [3] rfl ?_
        exact hK93 _ h
      · have h := h.2 c
        refine xw_iinc hf (pc := 72) dX2_take_72 (v := z4 + (-1)) 2 rfl rfl [(4, .int (z4 + (-1))), (0, .ref a0), (1, .long z1), (5, .int z5)] hn (by decide) rfl ?_
        refine xw_aload_n hf (pc := 75) dX2_take_75 rfl 1 rfl ?_
        refine xw_get hf (pc := 76) dX2_take_76 (T := TX2) mi_X2_take_X2 rfl 0 rfl 0 (by decide) rfl mw_X2_take_0 rfl ?_
        refine xw_lload_n hf (pc := 79) dX2_take_79 rfl 2 rfl ?_
        refine xw_iload hf (pc := 80) dX2_take_80 0 rfl ?_
        refine xw_callS hf (pc := 82) (nA := 2) (Xr := W_X2_take (xg x) a0 a1 v0) (rest := [.ref a1]) (c_X7_letter (xl x) (xg x) z1 (z4 + (-1)) h) gX2_take_X7_letter (by rfl) rfl (by decide +kernel) ⟨⟨(Nat.le_of_ble_eq_true rfl), (Nat.le_of_ble_eq_true rfl)⟩, hk.1, hk.2⟩ (Nat.le_of_ble_eq_true rfl) (sb_rf _) rfl dX2_take_82 (fun v X1 hp => ?_)
        obtain ⟨r6, rfl, rfl, h⟩ := hp
        show ww x (W_X2_take (xg x) a0 a1 v0) [(4, .int (z4 + (-1))), (0, .ref a0), (1, .long z1), (5, .int z5)] k0 n0 85 [.int r6, .ref a1]
        refine xw_dup2 hf (pc := 85) dX2_take_85 rfl rfl ?_
        refine xw_iald hf (pc := 86) dX2_take_86 1 rfl h.1 ?_
        have h := h.2
        refine xw_iconst hf (pc := 87) dX2_take_87 (v := 1) (by decide) ?_
        refine xw_iadd hf (pc := 88) dX2_take_88 ?_
        refine xw_iast hf (pc := 89) dX2_take_89 1 rfl h.1 (W_X2_take (xg x) a0 a1 (upd v0 r6.toNatClampNeg ((v0 r6.toNatClampNeg) + 1))) rfl ?_
        have h := h.2
        refine xw_goto hf (pc := 90) dX2_take_90 (tgt := 62) rfl ?_
        refine xw_L [1, 2, 0, 3] rfl ?_
        exact ih _ _ h
    · have h := h.2 c
      refine xw_L [3] rfl ?_
      exact hK93 _ h
set_option maxHeartbeats 4000000 in
set_option maxRecDepth 100000 in
theorem c_X2_take (l : Launch) (g : Gx) (a0 a1 : Nat) (v0 : Nat → Int32) (p1 : Int64) {post : Int32 → (Nat → Int32) → Prop} (h : P_X2_take post p1 v0) : cm l g yX2_take wsX2_take (rm_X2_take) [.ref a0, .long p1] (W_X2_take g a0 a1 v0) (fun v X1 => ∃ (r : Int32) (uv0 : Nat → Int32), v = some (.int r) ∧ X1 = W_X2_take g a0 a1 uv0 ∧ post r uv0) := by
  refine cm_of (cc := cX2_take) (nL := 6) (ret := (some .boolean)) (by decide +kernel) rfl (Nat.le_of_ble_eq_true rfl) ?_
  intro x hf hl hg hn hi hr
  subst hl
  subst hg
  show ww x (W_X2_take (xg x) a0 a1 v0) [(0, .ref a0), (1, .long p1)] 0 0 0 []
  unfold P_X2_take at h
  refine xw_lload_n hf (pc := 0) dX2_take_0 rfl 1 rfl ?_
  refine xw_callS hf (pc := 1) (nA := 1) (Xr := W_X2_take (xg x) a0 a1 v0) (rest := []) (c_X7_lengthOf (xl x) (xg x) p1 h) gX2_take_X7_lengthOf (by rfl) rfl (by decide +kernel) ⟨⟨(Nat.le_of_ble_eq_true rfl), (Nat.le_of_ble_eq_true rfl)⟩, (Nat.le_of_ble_eq_true rfl), (Nat.le_of_ble_eq_true rfl)⟩ (Nat.le_of_ble_eq_true rfl) (sb_rf _) rfl dX2_take_1 (fun v X1 hp => ?_)
  obtain ⟨r1, rfl, rfl, h⟩ := hp
  show ww x (W_X2_take (xg x) a0 a1 v0) [(0, .ref a0), (1, .long p1)] 0 0 4 [.int r1]
  refine xw_istore_n hf (pc := 4) dX2_take_4 rfl [(3, .int r1), (0, .ref a0), (1, .long p1)] hn (by decide) rfl ?_
  refine xw_iconst hf (pc := 5) dX2_take_5 (v := 0) (by decide) ?_
  refine xw_istore hf (pc := 6) dX2_take_6 [(4, .int 0), (3, .int r1), (0, .ref a0), (1, .long p1)] hn (by decide) rfl ?_
  refine xw_L [2, 3, 1, 0] rfl ?_
  refine w_X2_take_L8 hf hn ⟨(Nat.le_of_ble_eq_true rfl), (Nat.le_of_ble_eq_true rfl)⟩ a0 a1 p1 r1 FU _ _ h (fun x4 w5 h => ?_)
  refine xw_iload hf (pc := 49) dX2_take_49 3 rfl ?_
  refine xw_iload_n hf (pc := 51) dX2_take_51 rfl 2 rfl ?_
  refine xw_icmp_ne hf (pc := 52) dX2_take_52 (tgt := 59) rfl ⟨fun c => ?_, fun c => ?_⟩
  · have h := h.1 c
    refine xw_iconst hf (pc := 55) dX2_take_55 (v := 1) (by decide) ?_
    refine xw_goto hf (pc := 56) dX2_take_56 (tgt := 60) rfl ?_
    refine xw_istore hf (pc := 60) dX2_take_60 [(5, .int 1), (0, .ref a0), (1, .long p1), (3, .int r1), (4, .int x4)] hn (by decide) rfl ?_
    refine xw_L [1, 2, 4, 0] rfl ?_
    refine w_X2_take_L62 hf hn ⟨(Nat.le_of_ble_eq_true rfl), (Nat.le_of_ble_eq_true rfl)⟩ a0 a1 p1 1 FU _ _ h (fun w7 h => ?_)
    refine xw_iload hf (pc := 93) dX2_take_93 0 rfl ?_
    exact xw_zret hf (pc := 95) dX2_take_95 hr (Nat.le_of_ble_eq_true rfl) (Nat.le_of_ble_eq_true rfl) rfl ⟨_, _, rfl, rfl, h⟩
  · have h := h.2 c
    refine xw_iconst hf (pc := 59) dX2_take_59 (v := 0) (by decide) ?_
    refine xw_istore hf (pc := 60) dX2_take_60 [(5, .int 0), (0, .ref a0), (1, .long p1), (3, .int r1), (4, .int x4)] hn (by decide) rfl ?_
    refine xw_L [1, 2, 4, 0] rfl ?_
    refine w_X2_take_L62 hf hn ⟨(Nat.le_of_ble_eq_true rfl), (Nat.le_of_ble_eq_true rfl)⟩ a0 a1 p1 0 FU _ _ h (fun w8 h => ?_)
    refine xw_iload hf (pc := 93) dX2_take_93 0 rfl ?_
    exact xw_zret hf (pc := 95) dX2_take_95 hr (Nat.le_of_ble_eq_true rfl) (Nat.le_of_ble_eq_true rfl) rfl ⟨_, _, rfl, rfl, h⟩
abbrev W_X2_takeOne (g : Gx) (a0 a1 : Nat) (v0 : Nat → Int32) : va_W := [(a0, .inr (3, [.ref a1])), (a1, .inl (gI g, 32, .inl v0))]
abbrev rm_X2_takeOne : Room := { frames := 0, cells := 0, slots := 0, locals := 0 }
theorem mw_X2_takeOne_0 : (Cond.fieldLink RX2 11 "AnagramButcher$Pile" "pieces" "[I" : Cond) ∈ wsX2_takeOne := (List.mem_cons_of_mem _ (List.mem_append_left _ (List.mem_of_getElem? (i := 0) rfl)))
theorem mi_X2_takeOne_X2 : ∀ w ∈ wsX20, w ∈ wsX2_takeOne := fun _ h => (List.mem_cons_of_mem _ (List.mem_append_right _ h))
set_option maxHeartbeats 4000000 in
set_option maxRecDepth 100000 in
theorem c_X2_takeOne (l : Launch) (g : Gx) (a0 a1 : Nat) (v0 : Nat → Int32) (p1 : Int32) {post : (Nat → Int32) → Prop} (h : P_X2_takeOne post p1 v0) : cm l g yX2_takeOne wsX2_takeOne (rm_X2_takeOne) [.ref a0, .int p1] (W_X2_takeOne g a0 a1 v0) (fun v X1 => ∃ (uv0 : Nat → Int32), v = none ∧ X1 = W_X2_takeOne g a0 a1 uv0 ∧ post uv0) := by
  refine cm_of (cc := cX2_takeOne) (nL := 2) (ret := none) (by decide +kernel) rfl (Nat.le_of_ble_eq_true rfl) ?_
  intro x hf hl hg hn hi hr
  subst hl
  subst hg
  show ww x (W_X2_takeOne (xg x) a0 a1 v0) [(0, .ref a0), (1, .int p1)] 0 0 0 []
  unfold P_X2_takeOne at h
  refine xw_aload_n hf (pc := 0) dX2_takeOne_0 rfl 0 rfl ?_
  refine xw_get hf (pc := 1) dX2_takeOne_1 (T := TX2) mi_X2_takeOne_X2 rfl 0 rfl 0 (by decide) rfl mw_X2_takeOne_0 rfl ?_
  refine xw_iload_n hf (pc := 4) dX2_takeOne_4 rfl 1 rfl ?_
  refine xw_bipush hf (pc := 5) dX2_takeOne_5 (v := 31) (by decide) ?_
  refine xw_iand hf (pc := 7) dX2_takeOne_7 ?_
  refine xw_dup2 hf (pc := 8) dX2_takeOne_8 rfl rfl ?_
  refine xw_iald hf (pc := 9) dX2_takeOne_9 1 rfl h.1 ?_
  have h := h.2
  refine xw_iconst hf (pc := 10) dX2_takeOne_10 (v := 1) (by decide) ?_
  refine xw_isub hf (pc := 11) dX2_takeOne_11 ?_
  refine xw_iast hf (pc := 12) dX2_takeOne_12 1 rfl h.1 (W_X2_takeOne (xg x) a0 a1 (upd v0 (p1 &&& 31).toNatClampNeg ((v0 (p1 &&& 31).toNatClampNeg) - 1))) rfl ?_
  have h := h.2
  exact xw_vret hf (pc := 13) dX2_takeOne_13 hr (Nat.le_of_ble_eq_true rfl) (Nat.le_of_ble_eq_true rfl) ⟨_, rfl, rfl, h⟩
abbrev W_X2_holds (g : Gx) (a0 a1 : Nat) (v0 : Nat → Int32) : va_W := [(a0, .inr (3, [.ref a1])), (a1, .inl (gI g, 32, .inl v0))]
abbrev rm_X2_holds : Room := { frames := 2, cells := 0, slots := 0, locals := 47 }
set_option maxHeartbeats 4000000 in
set_option maxRecDepth 100000 in
theorem c_X2_holds (l : Launch) (g : Gx) (a0 a1 : Nat) (v0 : Nat → Int32) (p1 : Int64) {post : Int32 → (Nat → Int32) → Prop} (h : P_X2_holds post p1 v0) : cm l g yX2_holds wsX2_holds (rm_X2_holds) [.ref a0, .long p1] (W_X2_holds g a0 a1 v0) (fun v X1 => ∃ (r : Int32) (uv0 : Nat → Int32), v = some (.int r) ∧ X1 = W_X2_holds g a0 a1 uv0 ∧ post r uv0) := by
  refine cm_of (cc := cX2_holds) (nL := 4) (ret := (some .boolean)) (by decide +kernel) rfl (Nat.le_of_ble_eq_true rfl) ?_
  intro x hf hl hg hn hi hr
  subst hl
  subst hg
  show ww x (W_X2_holds (xg x) a0 a1 v0) [(0, .ref a0), (1, .long p1)] 0 0 0 []
  unfold P_X2_holds at h
  refine xw_aload_n hf (pc := 0) dX2_holds_0 rfl 0 rfl ?_
  refine xw_lload_n hf (pc := 1) dX2_holds_1 rfl 1 rfl ?_
  refine xw_callV hf (pc := 2) (nA := 1) (Xr := []) (rest := []) (T := TX2) (c_X2_take (xl x) (xg x) a0 a1 v0 p1 h) gX2_holds_X2_take (by rfl) rfl rfl (by decide +kernel) ⟨⟨(Nat.le_of_ble_eq_true rfl), (Nat.le_of_ble_eq_true rfl)⟩, (Nat.le_of_ble_eq_true rfl), (Nat.le_of_ble_eq_true rfl)⟩ (Nat.le_of_ble_eq_true rfl) rfl rfl (sb_of [0, 1] rfl rfl) rfl dX2_holds_2 (fun v X1 hp => ?_)
  obtain ⟨r1, w2, rfl, rfl, h⟩ := hp
  refine xw_X (sb_of [0, 1] rfl rfl) (show ww x (W_X2_holds (xg x) a0 a1 w2) [(0, .ref a0), (1, .long p1)] 0 0 5 [.int r1] from ?_)
  refine xw_istore_n hf (pc := 5) dX2_holds_5 rfl [(3, .int r1), (0, .ref a0), (1, .long p1)] hn (by decide) rfl ?_
  refine xw_iload_n hf (pc := 6) dX2_holds_6 rfl 0 rfl ?_
  refine xw_if_eq hf (pc := 7) dX2_holds_7 (c := r1 = 0) Iff.rfl (tgt := 16) rfl ⟨fun c => ?_, fun c => ?_⟩
  · have h := h.1 c
    refine xw_iload_n hf (pc := 16) dX2_holds_16 rfl 0 rfl ?_
    exact xw_zret hf (pc := 17) dX2_holds_17 hr (Nat.le_of_ble_eq_true rfl) (Nat.le_of_ble_eq_true rfl) h.1 ⟨_, _, rfl, rfl, h.2⟩
  · have h := h.2 c
    refine xw_aload_n hf (pc := 10) dX2_holds_10 rfl 1 rfl ?_
    refine xw_lload_n hf (pc := 11) dX2_holds_11 rfl 2 rfl ?_
    refine xw_iconst hf (pc := 12) dX2_holds_12 (v := 1) (by decide) ?_
    refine xw_callV hf (pc := 13) (nA := 2) (Xr := []) (rest := []) (T := TX2) (c_X2_put (xl x) (xg x) a0 a1 w2 p1 1 h) gX2_holds_X2_put (by rfl) rfl rfl (by decide +kernel) ⟨⟨(Nat.le_of_ble_eq_true rfl), (Nat.le_of_ble_eq_true rfl)⟩, (Nat.le_of_ble_eq_true rfl), (Nat.le_of_ble_eq_true rfl)⟩ (Nat.le_of_ble_eq_true rfl) rfl rfl (sb_of [0, 1] rfl rfl) rfl dX2_holds_13 (fun v X1 hp => ?_)
    obtain ⟨w4, rfl, rfl, h⟩ := hp
    refine xw_X (sb_of [0, 1] rfl rfl) (show ww x (W_X2_holds (xg x) a0 a1 w4) [(3, .int r1), (0, .ref a0), (1, .long p1)] 0 0 16 [] from ?_)
    refine xw_iload_n hf (pc := 16) dX2_holds_16 rfl 0 rfl ?_
    exact xw_zret hf (pc := 17) dX2_holds_17 hr (Nat.le_of_ble_eq_true rfl) (Nat.le_of_ble_eq_true rfl) h.1 ⟨_, _, rfl, rfl, h.2⟩
abbrev W_X2_lacking (g : Gx) (a0 a1 : Nat) (v0 : Nat → Int32) : va_W := [(a0, .inr (3, [.ref a1])), (a1, .inl (gI g, 32, .inl v0))]
abbrev rm_X2_lacking : Room := { frames := 2, cells := 0, slots := 0, locals := 47 }
theorem mw_X2_lacking_0 : (Cond.fieldLink RX2 11 "AnagramButcher$Pile" "pieces" "[I" : Cond) ∈ wsX2_lacking := (List.mem_cons_of_mem _ (List.mem_append_left _ (List.mem_of_getElem? (i := 0) rfl)))
theorem mi_X2_lacking_X2 : ∀ w ∈ wsX20, w ∈ wsX2_lacking := fun _ h => (List.mem_cons_of_mem _ (List.mem_append_right _ h))
set_option maxHeartbeats 4000000 in
set_option maxRecDepth 100000 in
theorem w_X2_lacking_L2 {x : Cx} (hf : fx x (rm_X2_lacking) RX2 cX2_lacking wsX2_lacking) (hn : xn x = 4) {k0 n0 : Nat} (hk : k0 ≤ (rm_X2_lacking).cells ∧ n0 ≤ (rm_X2_lacking).slots) (a0 a1 : Nat) (z1 : Int64) (v0 : Nat → Int32) {K22 : Int32 → Prop} {K30 : Prop}
    (n : Nat) (z3 : Int32) (h : P_X2_lacking_L2 z1 v0 K22 K30 n z3)
    (hK22 : ∀ (y3 : Int32), K22 y3 → ww x (W_X2_lacking (xg x) a0 a1 v0) [(3, .int y3)] k0 n0 22 [])
    (hK30 : K30 → ww x (W_X2_lacking (xg x) a0 a1 v0) [] k0 n0 30 []) :
    ww x (W_X2_lacking (xg x) a0 a1 v0) [(0, .ref a0), (1, .long z1), (3, .int z3)] k0 n0 2 [] := by
  induction n generalizing z3 with
  | zero => exact h.elim
  | succ n ih =>
    unfold P_X2_lacking_L2 at h
    refine xw_iload_n hf (pc := 2) dX2_lacking_2 rfl 2 rfl ?_
    refine xw_bipush hf (pc := 3) dX2_lacking_3 (v := 26) (by decide) ?_
    refine xw_icmp_gt hf (pc := 5) dX2_lacking_5 (tgt := 30) rfl ⟨fun c => ?_, fun c => ?_⟩
    · have h := h.1 c
      refine xw_L [] rfl ?_
      exact hK30 h
    · have h := h.2 c
      refine xw_aload_n hf (pc := 8) dX2_lacking_8 rfl 0 rfl ?_
      refine xw_get hf (pc := 9) dX2_lacking_9 (T := TX2) mi_X2_lacking_X2 rfl 0 rfl 0 (by decide) rfl mw_X2_lacking_0 rfl ?_
      refine xw_iload_n hf (pc := 12) dX2_lacking_12 rfl 2 rfl ?_
      refine xw_iald hf (pc := 13) dX2_lacking_13 1 rfl h.1 ?_
      have h := h.2
      refine xw_lload_n hf (pc := 14) dX2_lacking_14 rfl 1 rfl ?_
      refine xw_iload_n hf (pc := 15) dX2_lacking_15 rfl 2 rfl ?_
      refine xw_callS hf (pc := 16) (nA := 2) (Xr := W_X2_lacking (xg x) a0 a1 v0) (rest := [.int (v0 z3.toNatClampNeg)]) (c_X7_occurrences (xl x) (xg x) z1 z3 h) gX2_lacking_X7_occurrences (by rfl) rfl (by decide +kernel) ⟨⟨(Nat.le_of_ble_eq_true rfl), (Nat.le_of_ble_eq_true rfl)⟩, hk.1, hk.2⟩ (Nat.le_of_ble_eq_true rfl) (sb_rf _) rfl dX2_lacking_16 (fun v X1 hp => ?_)
      obtain ⟨r1, rfl, rfl, h⟩ := hp
      show ww x (W_X2_lacking (xg x) a0 a1 v0) [(0, .ref a0), (1, .long z1), (3, .int z3)] k0 n0 19 [.int r1, .int (v0 z3.toNatClampNeg)]
      refine xw_icmp_ge hf (pc := 19) dX2_lacking_19 (tgt := 24) rfl ⟨fun c => ?_, fun c => ?_⟩
      · have h := h.1 c
        refine xw_iinc hf (pc := 24) dX2_lacking_24 (v := z3 + 1) 2 rfl rfl [(3, .int (z3 + 1)), (0, .ref a0), (1, .long z1)] hn (by decide) rfl ?_
        refine xw_goto hf (pc := 27) dX2_lacking_27 (tgt := 2) rfl ?_
        refine xw_L [1, 2, 0] rfl ?_
        exact ih _ h
      · have h := h.2 c
        refine xw_L [2] rfl ?_
        exact hK22 _ h
set_option maxHeartbeats 4000000 in
set_option maxRecDepth 100000 in
theorem c_X2_lacking (l : Launch) (g : Gx) (a0 a1 : Nat) (v0 : Nat → Int32) (p1 : Int64) {post : Int32 → Prop} (h : P_X2_lacking post p1 v0) : cm l g yX2_lacking wsX2_lacking (rm_X2_lacking) [.ref a0, .long p1] (W_X2_lacking g a0 a1 v0) (fun v X1 => ∃ (r : Int32), v = some (.int r) ∧ X1 = W_X2_lacking g a0 a1 v0 ∧ post r) := by
  refine cm_of (cc := cX2_lacking) (nL := 4) (ret := (some .int)) (by decide +kernel) rfl (Nat.le_of_ble_eq_true rfl) ?_
  intro x hf hl hg hn hi hr
  subst hl
  subst hg
  show ww x (W_X2_lacking (xg x) a0 a1 v0) [(0, .ref a0), (1, .long p1)] 0 0 0 []
  unfold P_X2_lacking at h
  refine xw_iconst hf (pc := 0) dX2_lacking_0 (v := 1) (by decide) ?_
  refine xw_istore_n hf (pc := 1) dX2_lacking_1 rfl [(3, .int 1), (0, .ref a0), (1, .long p1)] hn (by decide) rfl ?_
  refine xw_L [1, 2, 0] rfl ?_
  refine w_X2_lacking_L2 hf hn ⟨(Nat.le_of_ble_eq_true rfl), (Nat.le_of_ble_eq_true rfl)⟩ a0 a1 p1 v0 FU _ h (fun x2 h => ?_) (fun h => ?_)
  · refine xw_iload_n hf (pc := 22) dX2_lacking_22 rfl 0 rfl ?_
    exact xw_iret hf (pc := 23) dX2_lacking_23 hr (Nat.le_of_ble_eq_true rfl) (Nat.le_of_ble_eq_true rfl) ⟨_, rfl, rfl, h⟩
  · refine xw_iconst hf (pc := 30) dX2_lacking_30 (v := (-1)) (by decide) ?_
    exact xw_iret hf (pc := 31) dX2_lacking_31 hr (Nat.le_of_ble_eq_true rfl) (Nat.le_of_ble_eq_true rfl) ⟨_, rfl, rfl, h⟩
