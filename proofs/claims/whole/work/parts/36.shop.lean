abbrev W_X8_requireRange (g : Gx) : va_W := []
abbrev rm_X8_requireRange : Room := { frames := 7, cells := 1, slots := 6, locals := 100 }
theorem mw_X8_requireRange_0 : (Cond.classLink RX8 275 "java/lang/IllegalArgumentException" : Cond) ∈ wsX8_requireRange := (List.mem_cons_of_mem _ (List.mem_append_left _ (List.mem_of_getElem? (i := 0) rfl)))
theorem mw_X8_requireRange_1 : (Cond.initialized "java/lang/IllegalArgumentException" : Cond) ∈ wsX8_requireRange := (List.mem_cons_of_mem _ (List.mem_append_left _ (List.mem_of_getElem? (i := 1) rfl)))
theorem ma_X8_requireRange_279 : ∀ w ∈ (vx_atS RX8 279 "java/lang/IllegalArgumentException" ["java/lang/RuntimeException", "java/lang/Exception"]).filter goodWord, w ∈ wsX8_requireRange := fun _ h => (List.mem_cons_of_mem _ (List.mem_append_right _ h))
set_option maxHeartbeats 4000000 in
set_option maxRecDepth 100000 in
theorem c_X8_requireRange (l : Launch) (g : Gx) (hst : l.stackTraces = false) (p0 : Int32) (p1 : Int32) (p2 : Int32) {post : Prop} {postX : String → Prop} (h : P_X8_requireRange post postX p0 p1 p2 ) : ce l g yX8_requireRange wsX8_requireRange (rm_X8_requireRange) [.int p0, .int p1, .int p2] (W_X8_requireRange g) (fun v X1 => v = none ∧ X1 = W_X8_requireRange g ∧ post ) (fun E X1 => X1 = W_X8_requireRange g ∧ postX E ) := by
  refine ce_of (cc := cX8_requireRange) (nL := 3) (ret := none) (by decide +kernel) rfl (Nat.le_of_ble_eq_true rfl) ?_
  intro x hf hl hg hn hi hr hx
  subst hl
  subst hg
  show ww x (W_X8_requireRange (xg x)) [(0, .int p0), (1, .int p1), (2, .int p2)] 0 0 0 []
  unfold P_X8_requireRange at h
  refine xw_iload_n hf (pc := 0) dX8_requireRange_0 rfl 0 rfl ?_
  refine xw_iload_n hf (pc := 1) dX8_requireRange_1 rfl 1 rfl ?_
  refine xw_icmp_lt hf (pc := 2) dX8_requireRange_2 (tgt := 10) rfl ⟨fun c => ?_, fun c => ?_⟩
  · have h := h.1 c
    exact xw_throwW hf hst hx (pc := 10) (rest := []) (E := sIAE) (text := "out of range") mw_X8_requireRange_0 mw_X8_requireRange_1 (by decide +kernel) (by decide +kernel) ma_X8_requireRange_279 tf_279 tv_279 tw_279 dX8_requireRange_10 dX8_requireRange_13 dX8_requireRange_14 dX8_requireRange_17 dX8_requireRange_20 ⟨⟨(Nat.le_of_ble_eq_true rfl), (Nat.le_of_ble_eq_true rfl)⟩, (Nat.le_of_ble_eq_true rfl), (Nat.le_of_ble_eq_true rfl)⟩ ⟨(Nat.le_of_ble_eq_true rfl), (Nat.le_of_ble_eq_true rfl)⟩ (Nat.le_of_ble_eq_true rfl) ⟨rfl, h⟩
  · have h := h.2 c
    refine xw_iload_n hf (pc := 5) dX8_requireRange_5 rfl 0 rfl ?_
    refine xw_iload_n hf (pc := 6) dX8_requireRange_6 rfl 2 rfl ?_
    refine xw_icmp_le hf (pc := 7) dX8_requireRange_7 (tgt := 21) rfl ⟨fun c => ?_, fun c => ?_⟩
    · have h := h.1 c
      exact xw_vret hf (pc := 21) dX8_requireRange_21 hr (Nat.le_of_ble_eq_true rfl) (Nat.le_of_ble_eq_true rfl) ⟨rfl, rfl, h⟩
    · have h := h.2 c
      exact xw_throwW hf hst hx (pc := 10) (rest := []) (E := sIAE) (text := "out of range") mw_X8_requireRange_0 mw_X8_requireRange_1 (by decide +kernel) (by decide +kernel) ma_X8_requireRange_279 tf_279 tv_279 tw_279 dX8_requireRange_10 dX8_requireRange_13 dX8_requireRange_14 dX8_requireRange_17 dX8_requireRange_20 ⟨⟨(Nat.le_of_ble_eq_true rfl), (Nat.le_of_ble_eq_true rfl)⟩, (Nat.le_of_ble_eq_true rfl), (Nat.le_of_ble_eq_true rfl)⟩ ⟨(Nat.le_of_ble_eq_true rfl), (Nat.le_of_ble_eq_true rfl)⟩ (Nat.le_of_ble_eq_true rfl) ⟨rfl, h⟩
abbrev W_X8_requireWord (g : Gx) : va_W := []
abbrev rm_X8_requireWord : Room := { frames := 7, cells := 1, slots := 6, locals := 100 }
theorem mw_X8_requireWord_0 : (Cond.classLink RX8 275 "java/lang/IllegalArgumentException" : Cond) ∈ wsX8_requireWord := (List.mem_cons_of_mem _ (List.mem_append_left _ (List.mem_of_getElem? (i := 0) rfl)))
theorem mw_X8_requireWord_1 : (Cond.initialized "java/lang/IllegalArgumentException" : Cond) ∈ wsX8_requireWord := (List.mem_cons_of_mem _ (List.mem_append_left _ (List.mem_of_getElem? (i := 1) rfl)))
theorem ma_X8_requireWord_279 : ∀ w ∈ (vx_atS RX8 279 "java/lang/IllegalArgumentException" ["java/lang/RuntimeException", "java/lang/Exception"]).filter goodWord, w ∈ wsX8_requireWord := fun _ h => (List.mem_cons_of_mem _ (List.mem_append_right _ h))
set_option maxHeartbeats 4000000 in
set_option maxRecDepth 100000 in
theorem c_X8_requireWord (l : Launch) (g : Gx) (hst : l.stackTraces = false) (p0 : Int64) {post : Prop} {postX : String → Prop} (h : P_X8_requireWord post postX p0 ) : ce l g yX8_requireWord wsX8_requireWord (rm_X8_requireWord) [.long p0] (W_X8_requireWord g) (fun v X1 => v = none ∧ X1 = W_X8_requireWord g ∧ post ) (fun E X1 => X1 = W_X8_requireWord g ∧ postX E ) := by
  refine ce_of (cc := cX8_requireWord) (nL := 2) (ret := none) (by decide +kernel) rfl (Nat.le_of_ble_eq_true rfl) ?_
  intro x hf hl hg hn hi hr hx
  subst hl
  subst hg
  show ww x (W_X8_requireWord (xg x)) [(0, .long p0)] 0 0 0 []
  unfold P_X8_requireWord at h
  refine xw_lload_n hf (pc := 0) dX8_requireWord_0 rfl 0 rfl ?_
  refine xw_callS hf (pc := 1) (nA := 1) (Xr := W_X8_requireWord (xg x)) (rest := []) (c_X7_isWord (xl x) (xg x) p0 h) gX8_requireWord_X7_isWord (by rfl) rfl (by decide +kernel) ⟨⟨(Nat.le_of_ble_eq_true rfl), (Nat.le_of_ble_eq_true rfl)⟩, (Nat.le_of_ble_eq_true rfl), (Nat.le_of_ble_eq_true rfl)⟩ (Nat.le_of_ble_eq_true rfl) (sb_rf _) rfl dX8_requireWord_1 (fun v X1 hp => ?_)
  obtain ⟨r1, rfl, rfl, h⟩ := hp
  show ww x (W_X8_requireWord (xg x)) [(0, .long p0)] 0 0 4 [.int r1]
  refine xw_if_ne hf (pc := 4) dX8_requireWord_4 (c := r1 = 0) Iff.rfl (tgt := 18) rfl ⟨fun c => ?_, fun c => ?_⟩
  · have h := h.1 c
    exact xw_throwW hf hst hx (pc := 7) (rest := []) (E := sIAE) (text := "not a word") mw_X8_requireWord_0 mw_X8_requireWord_1 (by decide +kernel) (by decide +kernel) ma_X8_requireWord_279 tf_279 tv_279 tw_279 dX8_requireWord_7 dX8_requireWord_10 dX8_requireWord_11 dX8_requireWord_14 dX8_requireWord_17 ⟨⟨(Nat.le_of_ble_eq_true rfl), (Nat.le_of_ble_eq_true rfl)⟩, (Nat.le_of_ble_eq_true rfl), (Nat.le_of_ble_eq_true rfl)⟩ ⟨(Nat.le_of_ble_eq_true rfl), (Nat.le_of_ble_eq_true rfl)⟩ (Nat.le_of_ble_eq_true rfl) ⟨rfl, h⟩
  · have h := h.2 c
    exact xw_vret hf (pc := 18) dX8_requireWord_18 hr (Nat.le_of_ble_eq_true rfl) (Nat.le_of_ble_eq_true rfl) ⟨rfl, rfl, h⟩
abbrev W_X8_requireLetter (g : Gx) : va_W := []
abbrev rm_X8_requireLetter : Room := { frames := 8, cells := 1, slots := 6, locals := 122 }
set_option maxHeartbeats 4000000 in
set_option maxRecDepth 100000 in
theorem c_X8_requireLetter (l : Launch) (g : Gx) (hst : l.stackTraces = false) (p0 : Int32) {post : Prop} {postX : String → Prop} (h : P_X8_requireLetter post postX p0 ) : ce l g yX8_requireLetter wsX8_requireLetter (rm_X8_requireLetter) [.int p0] (W_X8_requireLetter g) (fun v X1 => v = none ∧ X1 = W_X8_requireLetter g ∧ post ) (fun E X1 => X1 = W_X8_requireLetter g ∧ postX E ) := by
  refine ce_of (cc := cX8_requireLetter) (nL := 1) (ret := none) (by decide +kernel) rfl (Nat.le_of_ble_eq_true rfl) ?_
  intro x hf hl hg hn hi hr hx
  subst hl
  subst hg
  show ww x (W_X8_requireLetter (xg x)) [(0, .int p0)] 0 0 0 []
  unfold P_X8_requireLetter at h
  refine xw_iload_n hf (pc := 0) dX8_requireLetter_0 rfl 0 rfl ?_
  refine xw_iconst hf (pc := 1) dX8_requireLetter_1 (v := 1) (by decide) ?_
  refine xw_bipush hf (pc := 2) dX8_requireLetter_2 (v := 26) (by decide) ?_
  refine xw_callSX hf (pc := 4) (nA := 3) (Xr := W_X8_requireLetter (xg x)) (rest := []) (c_X8_requireRange (xl x) (xg x) hst p0 1 26 h) gX8_requireLetter_X8_requireRange (by rfl) rfl (by decide +kernel) ⟨⟨(Nat.le_of_ble_eq_true rfl), (Nat.le_of_ble_eq_true rfl)⟩, (Nat.le_of_ble_eq_true rfl), (Nat.le_of_ble_eq_true rfl)⟩ (Nat.le_of_ble_eq_true rfl) (sb_rf _) rfl dX8_requireLetter_4 (fun v X1 hp => ?_) (fun E2 X1 hp => ?_)
  · obtain ⟨rfl, rfl, h⟩ := hp
    show ww x (W_X8_requireLetter (xg x)) [(0, .int p0)] 1 6 7 []
    exact xw_vret hf (pc := 7) dX8_requireLetter_7 hr (Nat.le_of_ble_eq_true rfl) (Nat.le_of_ble_eq_true rfl) ⟨rfl, rfl, h⟩
  · obtain ⟨rfl, h⟩ := hp
    show wx x (W_X8_requireLetter (xg x)) [(0, .int p0)] 1 6 4 E2 []
    exact xw_out hx (Nat.le_of_ble_eq_true rfl) (Nat.le_of_ble_eq_true rfl) ⟨rfl, h⟩
abbrev W_X8_requireBudget (g : Gx) : va_W := []
abbrev rm_X8_requireBudget : Room := { frames := 8, cells := 1, slots := 6, locals := 122 }
theorem mw_X8_requireBudget_0 : (Cond.constant RX8 280 (99999) : Cond) ∈ wsX8_requireBudget := (List.mem_cons_of_mem _ (List.mem_append_left _ (List.mem_of_getElem? (i := 0) rfl)))
set_option maxHeartbeats 4000000 in
set_option maxRecDepth 100000 in
theorem c_X8_requireBudget (l : Launch) (g : Gx) (hst : l.stackTraces = false) (p0 : Int32) {post : Prop} {postX : String → Prop} (h : P_X8_requireBudget post postX p0 ) : ce l g yX8_requireBudget wsX8_requireBudget (rm_X8_requireBudget) [.int p0] (W_X8_requireBudget g) (fun v X1 => v = none ∧ X1 = W_X8_requireBudget g ∧ post ) (fun E X1 => X1 = W_X8_requireBudget g ∧ postX E ) := by
  refine ce_of (cc := cX8_requireBudget) (nL := 1) (ret := none) (by decide +kernel) rfl (Nat.le_of_ble_eq_true rfl) ?_
  intro x hf hl hg hn hi hr hx
  subst hl
  subst hg
  show ww x (W_X8_requireBudget (xg x)) [(0, .int p0)] 0 0 0 []
  unfold P_X8_requireBudget at h
  refine xw_iload_n hf (pc := 0) dX8_requireBudget_0 rfl 0 rfl ?_
  refine xw_iconst hf (pc := 1) dX8_requireBudget_1 (v := 0) (by decide) ?_
  refine xw_ldcw hf (pc := 2) dX8_requireBudget_2 mw_X8_requireBudget_0 ?_
  refine xw_callSX hf (pc := 5) (nA := 3) (Xr := W_X8_requireBudget (xg x)) (rest := []) (c_X8_requireRange (xl x) (xg x) hst p0 0 99999 h) gX8_requireBudget_X8_requireRange (by rfl) rfl (by decide +kernel) ⟨⟨(Nat.le_of_ble_eq_true rfl), (Nat.le_of_ble_eq_true rfl)⟩, (Nat.le_of_ble_eq_true rfl), (Nat.le_of_ble_eq_true rfl)⟩ (Nat.le_of_ble_eq_true rfl) (sb_rf _) rfl dX8_requireBudget_5 (fun v X1 hp => ?_) (fun E2 X1 hp => ?_)
  · obtain ⟨rfl, rfl, h⟩ := hp
    show ww x (W_X8_requireBudget (xg x)) [(0, .int p0)] 1 6 8 []
    exact xw_vret hf (pc := 8) dX8_requireBudget_8 hr (Nat.le_of_ble_eq_true rfl) (Nat.le_of_ble_eq_true rfl) ⟨rfl, rfl, h⟩
  · obtain ⟨rfl, h⟩ := hp
    show wx x (W_X8_requireBudget (xg x)) [(0, .int p0)] 1 6 5 E2 []
    exact xw_out hx (Nat.le_of_ble_eq_true rfl) (Nat.le_of_ble_eq_true rfl) ⟨rfl, h⟩
abbrev W_X8_requireWordOf (g : Gx) (a0 a1 : Nat) (v0 : Int32) (v1 : Nat → Int64) : va_W := [(a0, .inr (7, [.ref a1, .int v0])), (a1, .inl (gJ g, 60, .inr (.inl v1)))]
abbrev rm_X8_requireWordOf : Room := { frames := 7, cells := 1, slots := 6, locals := 100 }
theorem mw_X8_requireWordOf_0 : (Cond.classLink RX8 263 "java/lang/IndexOutOfBoundsException" : Cond) ∈ wsX8_requireWordOf := (List.mem_cons_of_mem _ (List.mem_append_left _ (List.mem_append_left _ (List.mem_of_getElem? (i := 0) rfl))))
theorem mw_X8_requireWordOf_1 : (Cond.initialized "java/lang/IndexOutOfBoundsException" : Cond) ∈ wsX8_requireWordOf := (List.mem_cons_of_mem _ (List.mem_append_left _ (List.mem_append_left _ (List.mem_of_getElem? (i := 1) rfl))))
theorem ma_X8_requireWordOf_267 : ∀ w ∈ (vx_atS RX8 267 "java/lang/IndexOutOfBoundsException" ["java/lang/RuntimeException", "java/lang/Exception"]).filter goodWord, w ∈ wsX8_requireWordOf := fun _ h => (List.mem_cons_of_mem _ (List.mem_append_right _ h))
set_option maxHeartbeats 4000000 in
set_option maxRecDepth 100000 in
theorem c_X8_requireWordOf (l : Launch) (g : Gx) (hst : l.stackTraces = false) (a0 a1 : Nat) (v0 : Int32) (v1 : Nat → Int64) (p1 : Int32) {post : Int64 → Prop} {postX : String → Prop} (h : P_X8_requireWordOf post postX p1 v0 v1) : ce l g yX8_requireWordOf wsX8_requireWordOf (rm_X8_requireWordOf) [.ref a0, .int p1] (W_X8_requireWordOf g a0 a1 v0 v1) (fun v X1 => ∃ (r : Int64), v = some (.long r) ∧ X1 = W_X8_requireWordOf g a0 a1 v0 v1 ∧ post r) (fun E X1 => X1 = W_X8_requireWordOf g a0 a1 v0 v1 ∧ postX E ) := by
  refine ce_of (cc := cX8_requireWordOf) (nL := 2) (ret := (some .long)) (by decide +kernel) rfl (Nat.le_of_ble_eq_true rfl) ?_
  intro x hf hl hg hn hi hr hx
  subst hl
  subst hg
  show ww x (W_X8_requireWordOf (xg x) a0 a1 v0 v1) [(0, .ref a0), (1, .int p1)] 0 0 0 []
  unfold P_X8_requireWordOf at h
  refine xw_iload_n hf (pc := 0) dX8_requireWordOf_0 rfl 1 rfl ?_
  refine xw_if_lt hf (pc := 1) dX8_requireWordOf_1 (c := p1 < 0) Iff.rfl (tgt := 12) rfl ⟨fun c => ?_, fun c => ?_⟩
  · have h := h.1 c
    exact xw_throwW hf hst hx (pc := 12) (rest := []) (E := sIOB) (text := "no word has this index") mw_X8_requireWordOf_0 mw_X8_requireWordOf_1 (by decide +kernel) (by decide +kernel) ma_X8_requireWordOf_267 tf_267 tv_267 tw_267 dX8_requireWordOf_12 dX8_requireWordOf_15 dX8_requireWordOf_16 dX8_requireWordOf_19 dX8_requireWordOf_22 ⟨⟨(Nat.le_of_ble_eq_true rfl), (Nat.le_of_ble_eq_true rfl)⟩, (Nat.le_of_ble_eq_true rfl), (Nat.le_of_ble_eq_true rfl)⟩ ⟨(Nat.le_of_ble_eq_true rfl), (Nat.le_of_ble_eq_true rfl)⟩ (Nat.le_of_ble_eq_true rfl) ⟨rfl, h⟩
  · have h := h.2 c
    refine xw_iload_n hf (pc := 4) dX8_requireWordOf_4 rfl 1 rfl ?_
    refine xw_aload_n hf (pc := 5) dX8_requireWordOf_5 rfl 0 rfl ?_
    refine xw_callV hf (pc := 6) (nA := 0) (Xr := [(a1, .inl (gJ (xg x), 60, .inr (.inl v1)))]) (rest := [.int p1]) (T := TX6) (c_X6_size (xl x) (xg x) a0 a1 v0 h) gX8_requireWordOf_X6_size (by rfl) rfl rfl (by decide +kernel) ⟨⟨(Nat.le_of_ble_eq_true rfl), (Nat.le_of_ble_eq_true rfl)⟩, (Nat.le_of_ble_eq_true rfl), (Nat.le_of_ble_eq_true rfl)⟩ (Nat.le_of_ble_eq_true rfl) rfl rfl (sb_of [0, 1] rfl rfl) rfl dX8_requireWordOf_6 (fun v X1 hp => ?_)
    obtain ⟨r1, rfl, rfl, h⟩ := hp
    refine xw_X (sb_of [0, 1] rfl rfl) (show ww x (W_X8_requireWordOf (xg x) a0 a1 v0 v1) [(0, .ref a0), (1, .int p1)] 0 0 9 [.int r1, .int p1] from ?_)
    refine xw_icmp_lt hf (pc := 9) dX8_requireWordOf_9 (tgt := 23) rfl ⟨fun c => ?_, fun c => ?_⟩
    · have h := h.1 c
      refine xw_aload_n hf (pc := 23) dX8_requireWordOf_23 rfl 0 rfl ?_
      refine xw_iload_n hf (pc := 24) dX8_requireWordOf_24 rfl 1 rfl ?_
      refine xw_callV hf (pc := 25) (nA := 1) (Xr := []) (rest := []) (T := TX6) (c_X6_word (xl x) (xg x) a0 a1 v0 v1 p1 h) gX8_requireWordOf_X6_word (by rfl) rfl rfl (by decide +kernel) ⟨⟨(Nat.le_of_ble_eq_true rfl), (Nat.le_of_ble_eq_true rfl)⟩, (Nat.le_of_ble_eq_true rfl), (Nat.le_of_ble_eq_true rfl)⟩ (Nat.le_of_ble_eq_true rfl) rfl rfl (sb_of [0, 1] rfl rfl) rfl dX8_requireWordOf_25 (fun v X1 hp => ?_)
      obtain ⟨r2, rfl, rfl, h⟩ := hp
      refine xw_X (sb_of [0, 1] rfl rfl) (show ww x (W_X8_requireWordOf (xg x) a0 a1 v0 v1) [(0, .ref a0), (1, .int p1)] 0 0 28 [.long r2] from ?_)
      exact xw_lret hf (pc := 28) dX8_requireWordOf_28 hr (Nat.le_of_ble_eq_true rfl) (Nat.le_of_ble_eq_true rfl) ⟨_, rfl, rfl, h⟩
    · have h := h.2 c
      exact xw_throwW hf hst hx (pc := 12) (rest := []) (E := sIOB) (text := "no word has this index") mw_X8_requireWordOf_0 mw_X8_requireWordOf_1 (by decide +kernel) (by decide +kernel) ma_X8_requireWordOf_267 tf_267 tv_267 tw_267 dX8_requireWordOf_12 dX8_requireWordOf_15 dX8_requireWordOf_16 dX8_requireWordOf_19 dX8_requireWordOf_22 ⟨⟨(Nat.le_of_ble_eq_true rfl), (Nat.le_of_ble_eq_true rfl)⟩, (Nat.le_of_ble_eq_true rfl), (Nat.le_of_ble_eq_true rfl)⟩ ⟨(Nat.le_of_ble_eq_true rfl), (Nat.le_of_ble_eq_true rfl)⟩ (Nat.le_of_ble_eq_true rfl) ⟨rfl, h⟩
abbrev W_X8_requireRoom (g : Gx) (a0 a1 a2 a3 a4 a5 a6 a7 a8 a9 a10 a11 : Nat) (v0 : Nat → Int32) (v1 : Nat → Int32) : va_W := [(a0, .inr (8, [.ref a6, .ref a1, .ref a7, .ref a8, .ref a9])), (a1, .inr (6, [.ref a2, .ref a10, .ref a11])), (a2, .inr (3, [.ref a3])), (a3, .inl (gI g, 32, .inl v0)), (a4, .inr (3, [.ref a5])), (a5, .inl (gI g, 32, .inl v1))]
abbrev rm_X8_requireRoom : Room := { frames := 7, cells := 1, slots := 6, locals := 100 }
theorem mw_X8_requireRoom_0 : (Cond.fieldLink RX8 19 "AnagramButcher" "stock" "LAnagramButcher$Stock;" : Cond) ∈ wsX8_requireRoom := (List.mem_cons_of_mem _ (List.mem_append_left _ (List.mem_append_left _ (List.mem_append_left _ (List.mem_append_left _ (List.mem_of_getElem? (i := 2) rfl))))))
theorem mw_X8_requireRoom_1 : (Cond.classLink RX8 52 "java/lang/IllegalStateException" : Cond) ∈ wsX8_requireRoom := (List.mem_cons_of_mem _ (List.mem_append_left _ (List.mem_append_left _ (List.mem_append_left _ (List.mem_append_left _ (List.mem_of_getElem? (i := 0) rfl))))))
theorem mw_X8_requireRoom_2 : (Cond.initialized "java/lang/IllegalStateException" : Cond) ∈ wsX8_requireRoom := (List.mem_cons_of_mem _ (List.mem_append_left _ (List.mem_append_left _ (List.mem_append_left _ (List.mem_append_left _ (List.mem_of_getElem? (i := 1) rfl))))))
theorem mi_X8_requireRoom_X8 : ∀ w ∈ wsX80, w ∈ wsX8_requireRoom := fun _ h => (List.mem_cons_of_mem _ (List.mem_append_left _ (List.mem_append_left _ (List.mem_append_left _ (List.mem_append_right _ h)))))
theorem ma_X8_requireRoom_56 : ∀ w ∈ (vx_atS RX8 56 "java/lang/IllegalStateException" ["java/lang/RuntimeException", "java/lang/Exception"]).filter goodWord, w ∈ wsX8_requireRoom := fun _ h => (List.mem_cons_of_mem _ (List.mem_append_right _ h))
set_option maxHeartbeats 4000000 in
set_option maxRecDepth 100000 in
theorem c_X8_requireRoom (l : Launch) (g : Gx) (hst : l.stackTraces = false) (a0 a1 a2 a3 a4 a5 a6 a7 a8 a9 a10 a11 : Nat) (v0 : Nat → Int32) (v1 : Nat → Int32) {post : Prop} {postX : String → Prop} (h : P_X8_requireRoom post postX v0 v1) : ce l g yX8_requireRoom wsX8_requireRoom (rm_X8_requireRoom) [.ref a0, .ref a4] (W_X8_requireRoom g a0 a1 a2 a3 a4 a5 a6 a7 a8 a9 a10 a11 v0 v1) (fun v X1 => v = none ∧ X1 = W_X8_requireRoom g a0 a1 a2 a3 a4 a5 a6 a7 a8 a9 a10 a11 v0 v1 ∧ post ) (fun E X1 => X1 = W_X8_requireRoom g a0 a1 a2 a3 a4 a5 a6 a7 a8 a9 a10 a11 v0 v1 ∧ postX E ) := by
  refine ce_of (cc := cX8_requireRoom) (nL := 2) (ret := none) (by decide +kernel) rfl (Nat.le_of_ble_eq_true rfl) ?_
  intro x hf hl hg hn hi hr hx
  subst hl
  subst hg
  show ww x (W_X8_requireRoom (xg x) a0 a1 a2 a3 a4 a5 a6 a7 a8 a9 a10 a11 v0 v1) [(0, .ref a0), (1, .ref a4)] 0 0 0 []
  unfold P_X8_requireRoom at h
  refine xw_aload_n hf (pc := 0) dX8_requireRoom_0 rfl 0 rfl ?_
  refine xw_get hf (pc := 1) dX8_requireRoom_1 (T := TX8) mi_X8_requireRoom_X8 rfl 0 rfl 1 (by decide) rfl mw_X8_requireRoom_0 rfl ?_
  refine xw_aload_n hf (pc := 4) dX8_requireRoom_4 rfl 1 rfl ?_
  refine xw_callV hf (pc := 5) (nA := 1) (Xr := [(a0, .inr (8, [.ref a6, .ref a1, .ref a7, .ref a8, .ref a9]))]) (rest := []) (T := TX5) (c_X5_hasRoomFor (xl x) (xg x) a1 a2 a3 a4 a5 a10 a11 v0 v1 h) gX8_requireRoom_X5_hasRoomFor (by rfl) rfl rfl (by decide +kernel) ⟨⟨(Nat.le_of_ble_eq_true rfl), (Nat.le_of_ble_eq_true rfl)⟩, (Nat.le_of_ble_eq_true rfl), (Nat.le_of_ble_eq_true rfl)⟩ (Nat.le_of_ble_eq_true rfl) rfl rfl (sb_of [1, 2, 3, 4, 5, 0] rfl rfl) rfl dX8_requireRoom_5 (fun v X1 hp => ?_)
  obtain ⟨r1, rfl, rfl, h⟩ := hp
  refine xw_X (sb_of [5, 0, 1, 2, 3, 4] rfl rfl) (show ww x (W_X8_requireRoom (xg x) a0 a1 a2 a3 a4 a5 a6 a7 a8 a9 a10 a11 v0 v1) [(0, .ref a0), (1, .ref a4)] 0 0 8 [.int r1] from ?_)
  refine xw_if_ne hf (pc := 8) dX8_requireRoom_8 (c := r1 = 0) Iff.rfl (tgt := 22) rfl ⟨fun c => ?_, fun c => ?_⟩
  · have h := h.1 c
    exact xw_throwW hf hst hx (pc := 11) (rest := []) (E := sISE) (text := "there would be too many pieces of a letter") mw_X8_requireRoom_1 mw_X8_requireRoom_2 (by decide +kernel) (by decide +kernel) ma_X8_requireRoom_56 tf_56 tv_56 tw_56 dX8_requireRoom_11 dX8_requireRoom_14 dX8_requireRoom_15 dX8_requireRoom_18 dX8_requireRoom_21 ⟨⟨(Nat.le_of_ble_eq_true rfl), (Nat.le_of_ble_eq_true rfl)⟩, (Nat.le_of_ble_eq_true rfl), (Nat.le_of_ble_eq_true rfl)⟩ ⟨(Nat.le_of_ble_eq_true rfl), (Nat.le_of_ble_eq_true rfl)⟩ (Nat.le_of_ble_eq_true rfl) ⟨rfl, h⟩
  · have h := h.2 c
    exact xw_vret hf (pc := 22) dX8_requireRoom_22 hr (Nat.le_of_ble_eq_true rfl) (Nat.le_of_ble_eq_true rfl) ⟨rfl, rfl, h⟩
abbrev W_X8_reasonAgainst (g : Gx) (a0 a1 a2 a3 a4 a5 a6 a7 a8 a9 a10 a11 a12 a13 : Nat) (v0 : Int32) (v1 : Nat → Int64) (v2 : Nat → Int32) (v3 : Nat → Int32) (v4 : Nat → Int32) : va_W := [(a0, .inr (8, [.ref a1, .ref a4, .ref a9, .ref a10, .ref a11])), (a1, .inr (2, [.ref a2, .ref a12, .ref a13])), (a2, .inr (7, [.ref a3, .int v0])), (a3, .inl (gJ g, 60, .inr (.inl v1))), (a4, .inr (6, [.ref a5, .ref a7, .ref a8])), (a5, .inr (3, [.ref a6])), (a6, .inl (gI g, 32, .inl v2)), (a7, .inl (gI g, 32, .inl v3)), (a8, .inl (gI g, 32, .inl v4))]
abbrev rm_X8_reasonAgainst : Room := { frames := 4, cells := 0, slots := 0, locals := 90 }
theorem mw_X8_reasonAgainst_0 : (Cond.fieldLink RX8 10 "AnagramButcher" "dictionary" "LAnagramButcher$Dictionary;" : Cond) ∈ wsX8_reasonAgainst := (List.mem_cons_of_mem _ (List.mem_append_left _ (List.mem_append_left _ (List.mem_append_left _ (List.mem_append_left _ (List.mem_append_left _ (List.mem_append_left _ (List.mem_of_getElem? (l := wsX8_reasonAgainst_r1) (i := 0) rfl))))))))
theorem mw_X8_reasonAgainst_1 : (Cond.fieldLink RX8 19 "AnagramButcher" "stock" "LAnagramButcher$Stock;" : Cond) ∈ wsX8_reasonAgainst := (List.mem_cons_of_mem _ (List.mem_append_left _ (List.mem_append_left _ (List.mem_append_left _ (List.mem_append_left _ (List.mem_append_left _ (List.mem_append_left _ (List.mem_of_getElem? (l := wsX8_reasonAgainst_r1) (i := 1) rfl))))))))
theorem mw_X8_reasonAgainst_2 : (Cond.fieldLink RX8 122 "AnagramButcher$Stock" "pieces" "LAnagramButcher$Pile;" : Cond) ∈ wsX8_reasonAgainst := (List.mem_cons_of_mem _ (List.mem_append_left _ (List.mem_append_left _ (List.mem_append_left _ (List.mem_append_left _ (List.mem_append_left _ (List.mem_append_left _ (List.mem_of_getElem? (l := wsX8_reasonAgainst_r1) (i := 2) rfl))))))))
theorem mi_X8_reasonAgainst_X8 : ∀ w ∈ wsX80, w ∈ wsX8_reasonAgainst := fun _ h => (List.mem_cons_of_mem _ (List.mem_append_left _ (List.mem_append_left _ (List.mem_append_left _ (List.mem_append_left _ (List.mem_append_right _ h))))))
theorem mi_X8_reasonAgainst_X5 : ∀ w ∈ wsX50, w ∈ wsX8_reasonAgainst := fun _ h => (List.mem_cons_of_mem _ (List.mem_append_left _ (List.mem_append_left _ (List.mem_append_left _ (List.mem_append_right _ h)))))
set_option maxHeartbeats 4000000 in
set_option maxRecDepth 100000 in
theorem c_X8_reasonAgainst (l : Launch) (g : Gx) (a0 a1 a2 a3 a4 a5 a6 a7 a8 a9 a10 a11 a12 a13 : Nat) (v0 : Int32) (v1 : Nat → Int64) (v2 : Nat → Int32) (v3 : Nat → Int32) (v4 : Nat → Int32) (p1 : Int64) (p3 : Int32) {post : Int32 → (Nat → Int32) → Prop} (h : P_X8_reasonAgainst post p1 p3 v0 v1 v2 v3 v4) : cm l g yX8_reasonAgainst wsX8_reasonAgainst (rm_X8_reasonAgainst) [.ref a0, .long p1, .int p3] (W_X8_reasonAgainst g a0 a1 a2 a3 a4 a5 a6 a7 a8 a9 a10 a11 a12 a13 v0 v1 v2 v3 v4) (fun v X1 => ∃ (r : Int32) (uv2 : Nat → Int32), v = some (.int r) ∧ X1 = W_X8_reasonAgainst g a0 a1 a2 a3 a4 a5 a6 a7 a8 a9 a10 a11 a12 a13 v0 v1 uv2 v3 v4 ∧ post r uv2) := by
  refine cm_of (cc := cX8_reasonAgainst) (nL := 4) (ret := (some .int)) (by decide +kernel) rfl (Nat.le_of_ble_eq_true rfl) ?_
  intro x hf hl hg hn hi hr
  subst hl
  subst hg
  show ww x (W_X8_reasonAgainst (xg x) a0 a1 a2 a3 a4 a5 a6 a7 a8 a9 a10 a11 a12 a13 v0 v1 v2 v3 v4) [(0, .ref a0), (1, .long p1), (3, .int p3)] 0 0 0 []
  unfold P_X8_reasonAgainst at h
  refine xw_aload_n hf (pc := 0) dX8_reasonAgainst_0 rfl 0 rfl ?_
  refine xw_get hf (pc := 1) dX8_reasonAgainst_1 (T := TX8) mi_X8_reasonAgainst_X8 rfl 0 rfl 0 (by decide) rfl mw_X8_reasonAgainst_0 rfl ?_
  refine xw_lload_n hf (pc := 4) dX8_reasonAgainst_4 rfl 1 rfl ?_
  refine xw_callV hf (pc := 5) (nA := 1) (Xr := [(a0, .inr (8, [.ref a1, .ref a4, .ref a9, .ref a10, .ref a11])), (a4, .inr (6, [.ref a5, .ref a7, .ref a8])), (a5, .inr (3, [.ref a6])), (a6, .inl (gI (xg x), 32, .inl v2)), (a7, .inl (gI (xg x), 32, .inl v3)), (a8, .inl (gI (xg x), 32, .inl v4))]) (rest := []) (T := TX1) (c_X1_contains (xl x) (xg x) a1 a2 a3 a12 a13 v0 v1 p1 h) gX8_reasonAgainst_X1_contains (by rfl) rfl rfl (by decide +kernel) ⟨⟨(Nat.le_of_ble_eq_true rfl), (Nat.le_of_ble_eq_true rfl)⟩, (Nat.le_of_ble_eq_true rfl), (Nat.le_of_ble_eq_true rfl)⟩ (Nat.le_of_ble_eq_true rfl) rfl rfl (sb_of [1, 2, 3, 0, 4, 5, 6, 7, 8] rfl rfl) rfl dX8_reasonAgainst_5 (fun v X1 hp => ?_)
  obtain ⟨r1, rfl, rfl, h⟩ := hp
  refine xw_X (sb_of [3, 0, 1, 2, 4, 5, 6, 7, 8] rfl rfl) (show ww x (W_X8_reasonAgainst (xg x) a0 a1 a2 a3 a4 a5 a6 a7 a8 a9 a10 a11 a12 a13 v0 v1 v2 v3 v4) [(0, .ref a0), (1, .long p1), (3, .int p3)] 0 0 8 [.int r1] from ?_)
  refine xw_if_ne hf (pc := 8) dX8_reasonAgainst_8 (c := r1 = 0) Iff.rfl (tgt := 13) rfl ⟨fun c => ?_, fun c => ?_⟩
  · have h := h.1 c
    refine xw_iconst hf (pc := 11) dX8_reasonAgainst_11 (v := 1) (by decide) ?_
    exact xw_iret hf (pc := 12) dX8_reasonAgainst_12 hr (Nat.le_of_ble_eq_true rfl) (Nat.le_of_ble_eq_true rfl) ⟨_, _, rfl, rfl, h⟩
  · have h := h.2 c
    refine xw_aload_n hf (pc := 13) dX8_reasonAgainst_13 rfl 0 rfl ?_
    refine xw_get hf (pc := 14) dX8_reasonAgainst_14 (T := TX8) mi_X8_reasonAgainst_X8 rfl 0 rfl 1 (by decide) rfl mw_X8_reasonAgainst_1 rfl ?_
    refine xw_get hf (pc := 17) dX8_reasonAgainst_17 (T := TX5) mi_X8_reasonAgainst_X5 rfl 4 rfl 0 (by decide) rfl mw_X8_reasonAgainst_2 rfl ?_
    refine xw_lload_n hf (pc := 20) dX8_reasonAgainst_20 rfl 1 rfl ?_
    refine xw_callV hf (pc := 21) (nA := 1) (Xr := [(a0, .inr (8, [.ref a1, .ref a4, .ref a9, .ref a10, .ref a11])), (a1, .inr (2, [.ref a2, .ref a12, .ref a13])), (a2, .inr (7, [.ref a3, .int v0])), (a3, .inl (gJ (xg x), 60, .inr (.inl v1))), (a4, .inr (6, [.ref a5, .ref a7, .ref a8])), (a7, .inl (gI (xg x), 32, .inl v3)), (a8, .inl (gI (xg x), 32, .inl v4))]) (rest := []) (T := TX2) (c_X2_holds (xl x) (xg x) a5 a6 v2 p1 h) gX8_reasonAgainst_X2_holds (by rfl) rfl rfl (by decide +kernel) ⟨⟨(Nat.le_of_ble_eq_true rfl), (Nat.le_of_ble_eq_true rfl)⟩, (Nat.le_of_ble_eq_true rfl), (Nat.le_of_ble_eq_true rfl)⟩ (Nat.le_of_ble_eq_true rfl) rfl rfl (sb_of [5, 6, 0, 1, 2, 3, 4, 7, 8] rfl rfl) rfl dX8_reasonAgainst_21 (fun v X1 hp => ?_)
    obtain ⟨r2, w3, rfl, rfl, h⟩ := hp
    refine xw_X (sb_of [2, 3, 4, 5, 6, 0, 1, 7, 8] rfl rfl) (show ww x (W_X8_reasonAgainst (xg x) a0 a1 a2 a3 a4 a5 a6 a7 a8 a9 a10 a11 a12 a13 v0 v1 w3 v3 v4) [(0, .ref a0), (1, .long p1), (3, .int p3)] 0 0 24 [.int r2] from ?_)
    refine xw_if_ne hf (pc := 24) dX8_reasonAgainst_24 (c := r2 = 0) Iff.rfl (tgt := 29) rfl ⟨fun c => ?_, fun c => ?_⟩
    · have h := h.1 c
      refine xw_iconst hf (pc := 27) dX8_reasonAgainst_27 (v := 2) (by decide) ?_
      exact xw_iret hf (pc := 28) dX8_reasonAgainst_28 hr (Nat.le_of_ble_eq_true rfl) (Nat.le_of_ble_eq_true rfl) ⟨_, _, rfl, rfl, h⟩
    · have h := h.2 c
      refine xw_aload_n hf (pc := 29) dX8_reasonAgainst_29 rfl 0 rfl ?_
      refine xw_get hf (pc := 30) dX8_reasonAgainst_30 (T := TX8) mi_X8_reasonAgainst_X8 rfl 0 rfl 1 (by decide) rfl mw_X8_reasonAgainst_1 rfl ?_
      refine xw_lload_n hf (pc := 33) dX8_reasonAgainst_33 rfl 1 rfl ?_
      refine xw_callV hf (pc := 34) (nA := 1) (Xr := [(a0, .inr (8, [.ref a1, .ref a4, .ref a9, .ref a10, .ref a11])), (a1, .inr (2, [.ref a2, .ref a12, .ref a13])), (a2, .inr (7, [.ref a3, .int v0])), (a3, .inl (gJ (xg x), 60, .inr (.inl v1)))]) (rest := []) (T := TX5) (c_X5_weigh (xl x) (xg x) a4 a5 a6 a7 a8 w3 v3 v4 p1 h) gX8_reasonAgainst_X5_weigh (by rfl) rfl rfl (by decide +kernel) ⟨⟨(Nat.le_of_ble_eq_true rfl), (Nat.le_of_ble_eq_true rfl)⟩, (Nat.le_of_ble_eq_true rfl), (Nat.le_of_ble_eq_true rfl)⟩ (Nat.le_of_ble_eq_true rfl) rfl rfl (sb_of [4, 5, 6, 7, 8, 0, 1, 2, 3] rfl rfl) rfl dX8_reasonAgainst_34 (fun v X1 hp => ?_)
      obtain ⟨r4, w5, rfl, rfl, h⟩ := hp
      refine xw_X (sb_of [5, 6, 7, 8, 0, 1, 2, 3, 4] rfl rfl) (show ww x (W_X8_reasonAgainst (xg x) a0 a1 a2 a3 a4 a5 a6 a7 a8 a9 a10 a11 a12 a13 v0 v1 w5 v3 v4) [(0, .ref a0), (1, .long p1), (3, .int p3)] 0 0 37 [.int r4] from ?_)
      refine xw_iload_n hf (pc := 37) dX8_reasonAgainst_37 rfl 2 rfl ?_
      refine xw_icmp_le hf (pc := 38) dX8_reasonAgainst_38 (tgt := 45) rfl ⟨fun c => ?_, fun c => ?_⟩
      · have h := h.1 c
        refine xw_iconst hf (pc := 45) dX8_reasonAgainst_45 (v := 0) (by decide) ?_
        exact xw_iret hf (pc := 46) dX8_reasonAgainst_46 hr (Nat.le_of_ble_eq_true rfl) (Nat.le_of_ble_eq_true rfl) ⟨_, _, rfl, rfl, h⟩
      · have h := h.2 c
        refine xw_iconst hf (pc := 41) dX8_reasonAgainst_41 (v := 3) (by decide) ?_
        refine xw_goto hf (pc := 42) dX8_reasonAgainst_42 (tgt := 46) rfl ?_
        exact xw_iret hf (pc := 46) dX8_reasonAgainst_46 hr (Nat.le_of_ble_eq_true rfl) (Nat.le_of_ble_eq_true rfl) ⟨_, _, rfl, rfl, h⟩
abbrev W_X8_bestFor (g : Gx) (a0 a1 a2 a3 a4 a5 a6 a7 a8 a9 a10 a11 a12 a13 : Nat) (v0 : Int32) (v1 : Nat → Int64) (v2 : Nat → Int32) (v3 : Nat → Int32) (v4 : Nat → Int32) : va_W := [(a0, .inr (8, [.ref a1, .ref a4, .ref a9, .ref a10, .ref a11])), (a1, .inr (2, [.ref a2, .ref a12, .ref a13])), (a2, .inr (7, [.ref a3, .int v0])), (a3, .inl (gJ g, 60, .inr (.inl v1))), (a4, .inr (6, [.ref a5, .ref a7, .ref a8])), (a5, .inr (3, [.ref a6])), (a6, .inl (gI g, 32, .inl v2)), (a7, .inl (gI g, 32, .inl v3)), (a8, .inl (gI g, 32, .inl v4))]
abbrev rm_X8_bestFor : Room := { frames := 4, cells := 0, slots := 0, locals := 95 }
theorem mw_X8_bestFor_0 : (Cond.fieldLink RX8 10 "AnagramButcher" "dictionary" "LAnagramButcher$Dictionary;" : Cond) ∈ wsX8_bestFor := (List.mem_cons_of_mem _ (List.mem_append_left _ (List.mem_append_left _ (List.mem_append_left _ (List.mem_append_left _ (List.mem_append_left _ (List.mem_append_left _ (List.mem_of_getElem? (l := wsX8_bestFor_r1) (i := 0) rfl))))))))
theorem mw_X8_bestFor_1 : (Cond.fieldLink RX8 19 "AnagramButcher" "stock" "LAnagramButcher$Stock;" : Cond) ∈ wsX8_bestFor := (List.mem_cons_of_mem _ (List.mem_append_left _ (List.mem_append_left _ (List.mem_append_left _ (List.mem_append_left _ (List.mem_append_left _ (List.mem_append_left _ (List.mem_of_getElem? (l := wsX8_bestFor_r1) (i := 1) rfl))))))))
theorem mi_X8_bestFor_X8 : ∀ w ∈ wsX80, w ∈ wsX8_bestFor := fun _ h => (List.mem_cons_of_mem _ (List.mem_append_left _ (List.mem_append_left _ (List.mem_append_left _ (List.mem_append_left _ (List.mem_append_right _ h))))))
set_option maxHeartbeats 4000000 in
set_option maxRecDepth 100000 in
theorem w_X8_bestFor_L11 {x : Cx} (hf : fx x (rm_X8_bestFor) RX8 cX8_bestFor wsX8_bestFor) (hn : xn x = 11) {k0 n0 : Nat} (hk : k0 ≤ (rm_X8_bestFor).cells ∧ n0 ≤ (rm_X8_bestFor).slots) (a0 a1 a2 a3 a4 a5 a6 a7 a8 a9 a10 a11 a12 a13 : Nat) (z1 : Int32) (v0 : Int32) (v1 : Nat → Int64) (v3 : Nat → Int32) (v4 : Nat → Int32) {K109 : Int64 → (Nat → Int32) → Prop}
    (n : Nat) (z2 : Int64) (z4 : Int32) (z5 : Int32) (z6 : Int32) (v2 : Nat → Int32) (h : P_X8_bestFor_L11 z1 v0 v1 v3 v4 K109 n z2 z4 z5 z6 v2)
    (hK109 : ∀ (y2 : Int64), ∀ (uv2 : Nat → Int32), K109 y2 uv2 → ww x (W_X8_bestFor (xg x) a0 a1 a2 a3 a4 a5 a6 a7 a8 a9 a10 a11 a12 a13 v0 v1 uv2 v3 v4) [(2, .long y2)] k0 n0 109 []) :
    ww x (W_X8_bestFor (xg x) a0 a1 a2 a3 a4 a5 a6 a7 a8 a9 a10 a11 a12 a13 v0 v1 v2 v3 v4) [(0, .ref a0), (1, .int z1), (2, .long z2), (4, .int z4), (5, .int z5), (6, .int z6)] k0 n0 11 [] := by
  induction n generalizing z2 z4 z5 z6 v2 with
  | zero => exact h.elim
  | succ n ih =>
    unfold P_X8_bestFor_L11 at h
    refine xw_iload hf (pc := 11) dX8_bestFor_11 5 rfl ?_
    refine xw_aload_n hf (pc := 13) dX8_bestFor_13 rfl 0 rfl ?_
    refine xw_get hf (pc := 14) dX8_bestFor_14 (T := TX8) mi_X8_bestFor_X8 rfl 0 rfl 0 (by decide) rfl mw_X8_bestFor_0 rfl ?_
    refine xw_callV hf (pc := 17) (nA := 0) (Xr := [(a0, .inr (8, [.ref a1, .ref a4, .ref a9, .ref a10, .ref a11])), (a2, .inr (7, [.ref a3, .int v0])), (a3, .inl (gJ (xg x), 60, .inr (.inl v1))), (a4, .inr (6, [.ref a5, .ref a7, .ref a8])), (a5, .inr (3, [.ref a6])), (a6, .inl (gI (xg x), 32, .inl v2)), (a7, .inl (gI (xg x), 32, .inl v3)), (a8, .inl (gI (xg x), 32, .inl v4))]) (rest := [.int z6]) (T := TX1) (c_X1_words (xl x) (xg x) a1 a2 a12 a13 h) gX8_bestFor_X1_words (by rfl) rfl rfl (by decide +kernel) ⟨⟨(Nat.le_of_ble_eq_true rfl), (Nat.le_of_ble_eq_true rfl)⟩, hk.1, hk.2⟩ (Nat.le_of_ble_eq_true rfl) rfl rfl (sb_of [1, 0, 2, 3, 4, 5, 6, 7, 8] rfl rfl) rfl dX8_bestFor_17 (fun v X1 hp => ?_)
    obtain ⟨rfl, rfl, h⟩ := hp
    refine xw_X (sb_of [1, 0, 2, 3, 4, 5, 6, 7, 8] rfl rfl) (show ww x (W_X8_bestFor (xg x) a0 a1 a2 a3 a4 a5 a6 a7 a8 a9 a10 a11 a12 a13 v0 v1 v2 v3 v4) [(0, .ref a0), (1, .int z1), (2, .long z2), (4, .int z4), (5, .int z5), (6, .int z6)] k0 n0 20 [.ref a2, .int z6] from ?_)
    refine xw_callV hf (pc := 20) (nA := 0) (Xr := [(a0, .inr (8, [.ref a1, .ref a4, .ref a9, .ref a10, .ref a11])), (a1, .inr (2, [.ref a2, .ref a12, .ref a13])), (a3, .inl (gJ (xg x), 60, .inr (.inl v1))), (a4, .inr (6, [.ref a5, .ref a7, .ref a8])), (a5, .inr (3, [.ref a6])), (a6, .inl (gI (xg x), 32, .inl v2)), (a7, .inl (gI (xg x), 32, .inl v3)), (a8, .inl (gI (xg x), 32, .inl v4))]) (rest := [.int z6]) (T := TX6) (c_X6_size (xl x) (xg x) a2 a3 v0 h) gX8_bestFor_X6_size (by rfl) rfl rfl (by decide +kernel) ⟨⟨(Nat.le_of_ble_eq_true rfl), (Nat.le_of_ble_eq_true rfl)⟩, hk.1, hk.2⟩ (Nat.le_of_ble_eq_true rfl) rfl rfl (sb_of [2, 0, 1, 3, 4, 5, 6, 7, 8] rfl rfl) rfl dX8_bestFor_20 (fun v X1 hp => ?_)
    obtain ⟨r2, rfl, rfl, h⟩ := hp
    refine xw_X (sb_of [1, 2, 0, 3, 4, 5, 6, 7, 8] rfl rfl) (show ww x (W_X8_bestFor (xg x) a0 a1 a2 a3 a4 a5 a6 a7 a8 a9 a10 a11 a12 a13 v0 v1 v2 v3 v4) [(0, .ref a0), (1, .int z1), (2, .long z2), (4, .int z4), (5, .int z5), (6, .int z6)] k0 n0 23 [.int r2, .int z6] from ?_)
    refine xw_icmp_ge hf (pc := 23) dX8_bestFor_23 (tgt := 109) rfl ⟨fun c => ?_, fun c => ?_⟩
    · have h := h.1 c
      refine xw_L [2] rfl ?_
      exact hK109 _ _ h
    · have h := h.2 c
      refine xw_aload_n hf (pc := 26) dX8_bestFor_26 rfl 0 rfl ?_
      refine xw_get hf (pc := 27) dX8_bestFor_27 (T := TX8) mi_X8_bestFor_X8 rfl 0 rfl 0 (by decide) rfl mw_X8_bestFor_0 rfl ?_
      refine xw_callV hf (pc := 30) (nA := 0) (Xr := [(a0, .inr (8, [.ref a1, .ref a4, .ref a9, .ref a10, .ref a11])), (a2, .inr (7, [.ref a3, .int v0])), (a3, .inl (gJ (xg x), 60, .inr (.inl v1))), (a4, .inr (6, [.ref a5, .ref a7, .ref a8])), (a5, .inr (3, [.ref a6])), (a6, .inl (gI (xg x), 32, .inl v2)), (a7, .inl (gI (xg x), 32, .inl v3)), (a8, .inl (gI (xg x), 32, .inl v4))]) (rest := []) (T := TX1) (c_X1_words (xl x) (xg x) a1 a2 a12 a13 h) gX8_bestFor_X1_words (by rfl) rfl rfl (by decide +kernel) ⟨⟨(Nat.le_of_ble_eq_true rfl), (Nat.le_of_ble_eq_true rfl)⟩, hk.1, hk.2⟩ (Nat.le_of_ble_eq_true rfl) rfl rfl (sb_of [1, 0, 2, 3, 4, 5, 6, 7, 8] rfl rfl) rfl dX8_bestFor_30 (fun v X1 hp => ?_)
      obtain ⟨rfl, rfl, h⟩ := hp
      refine xw_X (sb_of [1, 0, 2, 3, 4, 5, 6, 7, 8] rfl rfl) (show ww x (W_X8_bestFor (xg x) a0 a1 a2 a3 a4 a5 a6 a7 a8 a9 a10 a11 a12 a13 v0 v1 v2 v3 v4) [(0, .ref a0), (1, .int z1), (2, .long z2), (4, .int z4), (5, .int z5), (6, .int z6)] k0 n0 33 [.ref a2] from ?_)
      refine xw_iload hf (pc := 33) dX8_bestFor_33 5 rfl ?_
      refine xw_callV hf (pc := 35) (nA := 1) (Xr := [(a0, .inr (8, [.ref a1, .ref a4, .ref a9, .ref a10, .ref a11])), (a1, .inr (2, [.ref a2, .ref a12, .ref a13])), (a4, .inr (6, [.ref a5, .ref a7, .ref a8])), (a5, .inr (3, [.ref a6])), (a6, .inl (gI (xg x), 32, .inl v2)), (a7, .inl (gI (xg x), 32, .inl v3)), (a8, .inl (gI (xg x), 32, .inl v4))]) (rest := []) (T := TX6) (c_X6_word (xl x) (xg x) a2 a3 v0 v1 z6 h) gX8_bestFor_X6_word (by rfl) rfl rfl (by decide +kernel) ⟨⟨(Nat.le_of_ble_eq_true rfl), (Nat.le_of_ble_eq_true rfl)⟩, hk.1, hk.2⟩ (Nat.le_of_ble_eq_true rfl) rfl rfl (sb_of [2, 3, 0, 1, 4, 5, 6, 7, 8] rfl rfl) rfl dX8_bestFor_35 (fun v X1 hp => ?_)
      obtain ⟨r4, rfl, rfl, h⟩ := hp
      refine xw_X (sb_of [2, 3, 0, 1, 4, 5, 6, 7, 8] rfl rfl) (show ww x (W_X8_bestFor (xg x) a0 a1 a2 a3 a4 a5 a6 a7 a8 a9 a10 a11 a12 a13 v0 v1 v2 v3 v4) [(0, .ref a0), (1, .int z1), (2, .long z2), (4, .int z4), (5, .int z5), (6, .int z6)] k0 n0 38 [.long r4] from ?_)
      refine xw_lstore hf (pc := 38) dX8_bestFor_38 [(7, .long r4), (0, .ref a0), (1, .int z1), (2, .long z2), (4, .int z4), (5, .int z5), (6, .int z6)] hn (by decide) rfl ?_
      refine xw_lload hf (pc := 40) dX8_bestFor_40 0 rfl ?_
      refine xw_callS hf (pc := 42) (nA := 1) (Xr := W_X8_bestFor (xg x) a0 a1 a2 a3 a4 a5 a6 a7 a8 a9 a10 a11 a12 a13 v0 v1 v2 v3 v4) (rest := []) (c_X7_lengthOf (xl x) (xg x) r4 h) gX8_bestFor_X7_lengthOf (by rfl) rfl (by decide +kernel) ⟨⟨(Nat.le_of_ble_eq_true rfl), (Nat.le_of_ble_eq_true rfl)⟩, hk.1, hk.2⟩ (Nat.le_of_ble_eq_true rfl) (sb_rf _) rfl dX8_bestFor_42 (fun v X1 hp => ?_)
      obtain ⟨r5, rfl, rfl, h⟩ := hp
      show ww x (W_X8_bestFor (xg x) a0 a1 a2 a3 a4 a5 a6 a7 a8 a9 a10 a11 a12 a13 v0 v1 v2 v3 v4) [(7, .long r4), (0, .ref a0), (1, .int z1), (2, .long z2), (4, .int z4), (5, .int z5), (6, .int z6)] k0 n0 45 [.int r5]
      refine xw_istore hf (pc := 45) dX8_bestFor_45 [(9, .int r5), (7, .long r4), (0, .ref a0), (1, .int z1), (2, .long z2), (4, .int z4), (5, .int z5), (6, .int z6)] hn (by decide) rfl ?_
      refine xw_iload hf (pc := 47) dX8_bestFor_47 0 rfl ?_
      refine xw_iload hf (pc := 49) dX8_bestFor_49 5 rfl ?_
      refine xw_icmp_lt hf (pc := 51) dX8_bestFor_51 (tgt := 103) rfl ⟨fun c => ?_, fun c => ?_⟩
      · have h := h.1 c
        refine xw_iinc hf (pc := 103) dX8_bestFor_103 (v := z6 + 1) 7 rfl rfl [(6, .int (z6 + 1)), (9, .int r5), (7, .long r4), (0, .ref a0), (1, .int z1), (2, .long z2), (4, .int z4), (5, .int z5)] hn (by decide) rfl ?_
        refine xw_goto hf (pc := 106) dX8_bestFor_106 (tgt := 11) rfl ?_
        refine xw_L [3, 4, 5, 6, 7, 0] rfl ?_
        exact ih _ _ _ _ _ h
      · have h := h.2 c
        refine xw_aload_n hf (pc := 54) dX8_bestFor_54 rfl 2 rfl ?_
        refine xw_get hf (pc := 55) dX8_bestFor_55 (T := TX8) mi_X8_bestFor_X8 rfl 0 rfl 1 (by decide) rfl mw_X8_bestFor_1 rfl ?_
        refine xw_lload hf (pc := 58) dX8_bestFor_58 1 rfl ?_
        refine xw_iload_n hf (pc := 60) dX8_bestFor_60 rfl 3 rfl ?_
        refine xw_callV hf (pc := 61) (nA := 2) (Xr := [(a0, .inr (8, [.ref a1, .ref a4, .ref a9, .ref a10, .ref a11])), (a1, .inr (2, [.ref a2, .ref a12, .ref a13])), (a2, .inr (7, [.ref a3, .int v0])), (a3, .inl (gJ (xg x), 60, .inr (.inl v1)))]) (rest := []) (T := TX5) (c_X5_canSell (xl x) (xg x) a4 a5 a6 a7 a8 v2 v3 v4 r4 z1 h) gX8_bestFor_X5_canSell (by rfl) rfl rfl (by decide +kernel) ⟨⟨(Nat.le_of_ble_eq_true rfl), (Nat.le_of_ble_eq_true rfl)⟩, hk.1, hk.2⟩ (Nat.le_of_ble_eq_true rfl) rfl rfl (sb_of [4, 5, 6, 7, 8, 0, 1, 2, 3] rfl rfl) rfl dX8_bestFor_61 (fun v X1 hp => ?_)
        obtain ⟨r6, w7, rfl, rfl, h⟩ := hp
        refine xw_X (sb_of [5, 6, 7, 8, 0, 1, 2, 3, 4] rfl rfl) (show ww x (W_X8_bestFor (xg x) a0 a1 a2 a3 a4 a5 a6 a7 a8 a9 a10 a11 a12 a13 v0 v1 w7 v3 v4) [(9, .int r5), (7, .long r4), (0, .ref a0), (1, .int z1), (2, .long z2), (4, .int z4), (5, .int z5), (6, .int z6)] k0 n0 64 [.int r6] from ?_)
        refine xw_if_eq hf (pc := 64) dX8_bestFor_64 (c := r6 = 0) Iff.rfl (tgt := 103) rfl ⟨fun c => ?_, fun c => ?_⟩
        · have h := h.1 c
          refine xw_iinc hf (pc := 103) dX8_bestFor_103 (v := z6 + 1) 7 rfl rfl [(6, .int (z6 + 1)), (9, .int r5), (7, .long r4), (0, .ref a0), (1, .int z1), (2, .long z2), (4, .int z4), (5, .int z5)] hn (by decide) rfl ?_
          refine xw_goto hf (pc := 106) dX8_bestFor_106 (tgt := 11) rfl ?_
          refine xw_L [3, 4, 5, 6, 7, 0] rfl ?_
          exact ih _ _ _ _ _ h
        · have h := h.2 c
          refine xw_aload_n hf (pc := 67) dX8_bestFor_67 rfl 2 rfl ?_
          refine xw_get hf (pc := 68) dX8_bestFor_68 (T := TX8) mi_X8_bestFor_X8 rfl 0 rfl 1 (by decide) rfl mw_X8_bestFor_1 rfl ?_
          refine xw_lload hf (pc := 71) dX8_bestFor_71 1 rfl ?_
          refine xw_callV hf (pc := 73) (nA := 1) (Xr := [(a0, .inr (8, [.ref a1, .ref a4, .ref a9, .ref a10, .ref a11])), (a1, .inr (2, [.ref a2, .ref a12, .ref a13])), (a2, .inr (7, [.ref a3, .int v0])), (a3, .inl (gJ (xg x), 60, .inr (.inl v1)))]) (rest := []) (T := TX5) (c_X5_weigh (xl x) (xg x) a4 a5 a6 a7 a8 w7 v3 v4 r4 h) gX8_bestFor_X5_weigh (by rfl) rfl rfl (by decide +kernel) ⟨⟨(Nat.le_of_ble_eq_true rfl), (Nat.le_of_ble_eq_true rfl)⟩, hk.1, hk.2⟩ (Nat.le_of_ble_eq_true rfl) rfl rfl (sb_of [4, 5, 6, 7, 8, 0, 1, 2, 3] rfl rfl) rfl dX8_bestFor_73 (fun v X1 hp => ?_)
          obtain ⟨r8, w9, rfl, rfl, h⟩ := hp
          refine xw_X (sb_of [5, 6, 7, 8, 0, 1, 2, 3, 4] rfl rfl) (show ww x (W_X8_bestFor (xg x) a0 a1 a2 a3 a4 a5 a6 a7 a8 a9 a10 a11 a12 a13 v0 v1 w9 v3 v4) [(9, .int r5), (7, .long r4), (0, .ref a0), (1, .int z1), (2, .long z2), (4, .int z4), (5, .int z5), (6, .int z6)] k0 n0 76 [.int r8] from ?_)
          refine xw_istore hf (pc := 76) dX8_bestFor_76 [(10, .int r8), (9, .int r5), (7, .long r4), (0, .ref a0), (1, .int z1), (2, .long z2), (4, .int z4), (5, .int z5), (6, .int z6)] hn (by decide) rfl ?_
          refine xw_iload hf (pc := 78) dX8_bestFor_78 1 rfl ?_
          refine xw_iload hf (pc := 80) dX8_bestFor_80 6 rfl ?_
          refine xw_icmp_gt hf (pc := 82) dX8_bestFor_82 (tgt := 92) rfl ⟨fun c => ?_, fun c => ?_⟩
          · have h := h.1 c
            refine xw_lload hf (pc := 92) dX8_bestFor_92 2 rfl ?_
            refine xw_lstore_n hf (pc := 94) dX8_bestFor_94 rfl [(2, .long r4), (10, .int r8), (9, .int r5), (7, .long r4), (0, .ref a0), (1, .int z1), (4, .int z4), (5, .int z5), (6, .int z6)] hn (by decide) rfl ?_
            refine xw_iload hf (pc := 95) dX8_bestFor_95 2 rfl ?_
            refine xw_istore hf (pc := 97) dX8_bestFor_97 [(4, .int r5), (2, .long r4), (10, .int r8), (9, .int r5), (7, .long r4), (0, .ref a0), (1, .int z1), (5, .int z5), (6, .int z6)] hn (by decide) rfl ?_
            refine xw_iload hf (pc := 99) dX8_bestFor_99 2 rfl ?_
            refine xw_istore hf (pc := 101) dX8_bestFor_101 [(5, .int r8), (4, .int r5), (2, .long r4), (10, .int r8), (9, .int r5), (7, .long r4), (0, .ref a0), (1, .int z1), (6, .int z6)] hn (by decide) rfl ?_
            refine xw_iinc hf (pc := 103) dX8_bestFor_103 (v := z6 + 1) 8 rfl rfl [(6, .int (z6 + 1)), (5, .int r8), (4, .int r5), (2, .long r4), (10, .int r8), (9, .int r5), (7, .long r4), (0, .ref a0), (1, .int z1)] hn (by decide) rfl ?_
            refine xw_goto hf (pc := 106) dX8_bestFor_106 (tgt := 11) rfl ?_
            refine xw_L [7, 8, 3, 2, 1, 0] rfl ?_
            exact ih _ _ _ _ _ h
          · have h := h.2 c
            refine xw_iload hf (pc := 85) dX8_bestFor_85 0 rfl ?_
            refine xw_iload hf (pc := 87) dX8_bestFor_87 7 rfl ?_
            refine xw_icmp_ge hf (pc := 89) dX8_bestFor_89 (tgt := 103) rfl ⟨fun c => ?_, fun c => ?_⟩
            · have h := h.1 c
              refine xw_iinc hf (pc := 103) dX8_bestFor_103 (v := z6 + 1) 8 rfl rfl [(6, .int (z6 + 1)), (10, .int r8), (9, .int r5), (7, .long r4), (0, .ref a0), (1, .int z1), (2, .long z2), (4, .int z4), (5, .int z5)] hn (by decide) rfl ?_
              refine xw_goto hf (pc := 106) dX8_bestFor_106 (tgt := 11) rfl ?_
              refine xw_L [4, 5, 6, 7, 8, 0] rfl ?_
              exact ih _ _ _ _ _ h
            · have h := h.2 c
              refine xw_lload hf (pc := 92) dX8_bestFor_92 2 rfl ?_
              refine xw_lstore_n hf (pc := 94) dX8_bestFor_94 rfl [(2, .long r4), (10, .int r8), (9, .int r5), (7, .long r4), (0, .ref a0), (1, .int z1), (4, .int z4), (5, .int z5), (6, .int z6)] hn (by decide) rfl ?_
              refine xw_iload hf (pc := 95) dX8_bestFor_95 2 rfl ?_
              refine xw_istore hf (pc := 97) dX8_bestFor_97 [(4, .int r5), (2, .long r4), (10, .int r8), (9, .int r5), (7, .long r4), (0, .ref a0), (1, .int z1), (5, .int z5), (6, .int z6)] hn (by decide) rfl ?_
              refine xw_iload hf (pc := 99) dX8_bestFor_99 2 rfl ?_
              refine xw_istore hf (pc := 101) dX8_bestFor_101 [(5, .int r8), (4, .int r5), (2, .long r4), (10, .int r8), (9, .int r5), (7, .long r4), (0, .ref a0), (1, .int z1), (6, .int z6)] hn (by decide) rfl ?_
              refine xw_iinc hf (pc := 103) dX8_bestFor_103 (v := z6 + 1) 8 rfl rfl [(6, .int (z6 + 1)), (5, .int r8), (4, .int r5), (2, .long r4), (10, .int r8), (9, .int r5), (7, .long r4), (0, .ref a0), (1, .int z1)] hn (by decide) rfl ?_
              refine xw_goto hf (pc := 106) dX8_bestFor_106 (tgt := 11) rfl ?_
              refine xw_L [7, 8, 3, 2, 1, 0] rfl ?_
              exact ih _ _ _ _ _ h
set_option maxHeartbeats 4000000 in
set_option maxRecDepth 100000 in
theorem c_X8_bestFor (l : Launch) (g : Gx) (a0 a1 a2 a3 a4 a5 a6 a7 a8 a9 a10 a11 a12 a13 : Nat) (v0 : Int32) (v1 : Nat → Int64) (v2 : Nat → Int32) (v3 : Nat → Int32) (v4 : Nat → Int32) (p1 : Int32) {post : Int64 → (Nat → Int32) → Prop} (h : P_X8_bestFor post p1 v0 v1 v2 v3 v4) : cm l g yX8_bestFor wsX8_bestFor (rm_X8_bestFor) [.ref a0, .int p1] (W_X8_bestFor g a0 a1 a2 a3 a4 a5 a6 a7 a8 a9 a10 a11 a12 a13 v0 v1 v2 v3 v4) (fun v X1 => ∃ (r : Int64) (uv2 : Nat → Int32), v = some (.long r) ∧ X1 = W_X8_bestFor g a0 a1 a2 a3 a4 a5 a6 a7 a8 a9 a10 a11 a12 a13 v0 v1 uv2 v3 v4 ∧ post r uv2) := by
  refine cm_of (cc := cX8_bestFor) (nL := 11) (ret := (some .long)) (by decide +kernel) rfl (Nat.le_of_ble_eq_true rfl) ?_
  intro x hf hl hg hn hi hr
  subst hl
  subst hg
  show ww x (W_X8_bestFor (xg x) a0 a1 a2 a3 a4 a5 a6 a7 a8 a9 a10 a11 a12 a13 v0 v1 v2 v3 v4) [(0, .ref a0), (1, .int p1)] 0 0 0 []
  unfold P_X8_bestFor at h
  refine xw_lconst hf (pc := 0) dX8_bestFor_0 (v := 0) (by decide) ?_
  refine xw_lstore_n hf (pc := 1) dX8_bestFor_1 rfl [(2, .long 0), (0, .ref a0), (1, .int p1)] hn (by decide) rfl ?_
  refine xw_iconst hf (pc := 2) dX8_bestFor_2 (v := 0) (by decide) ?_
  refine xw_istore hf (pc := 3) dX8_bestFor_3 [(4, .int 0), (2, .long 0), (0, .ref a0), (1, .int p1)] hn (by decide) rfl ?_
  refine xw_iconst hf (pc := 5) dX8_bestFor_5 (v := 0) (by decide) ?_
  refine xw_istore hf (pc := 6) dX8_bestFor_6 [(5, .int 0), (4, .int 0), (2, .long 0), (0, .ref a0), (1, .int p1)] hn (by decide) rfl ?_
  refine xw_iconst hf (pc := 8) dX8_bestFor_8 (v := 0) (by decide) ?_
  refine xw_istore hf (pc := 9) dX8_bestFor_9 [(6, .int 0), (5, .int 0), (4, .int 0), (2, .long 0), (0, .ref a0), (1, .int p1)] hn (by decide) rfl ?_
  refine xw_L [4, 5, 3, 2, 1, 0] rfl ?_
  refine w_X8_bestFor_L11 hf hn ⟨(Nat.le_of_ble_eq_true rfl), (Nat.le_of_ble_eq_true rfl)⟩ a0 a1 a2 a3 a4 a5 a6 a7 a8 a9 a10 a11 a12 a13 p1 v0 v1 v3 v4 FU _ _ _ _ _ h (fun x10 w11 h => ?_)
  refine xw_lload_n hf (pc := 109) dX8_bestFor_109 rfl 0 rfl ?_
  exact xw_lret hf (pc := 110) dX8_bestFor_110 hr (Nat.le_of_ble_eq_true rfl) (Nat.le_of_ble_eq_true rfl) ⟨_, _, rfl, rfl, h⟩
abbrev W_X8_addWord (g : Gx) (a0 a1 a2 a3 a4 a5 a6 a7 a8 a9 : Nat) (v0 : Int32) (v1 : Nat → Int64) : va_W := [(a0, .inr (8, [.ref a1, .ref a4, .ref a5, .ref a6, .ref a7])), (a1, .inr (2, [.ref a2, .ref a8, .ref a9])), (a2, .inr (7, [.ref a3, .int v0])), (a3, .inl (gJ g, 60, .inr (.inl v1)))]
abbrev rm_X8_addWord : Room := { frames := 8, cells := 2, slots := 12, locals := 121 }
theorem mw_X8_addWord_0 : (Cond.fieldLink RX8 10 "AnagramButcher" "dictionary" "LAnagramButcher$Dictionary;" : Cond) ∈ wsX8_addWord := (List.mem_cons_of_mem _ (List.mem_append_left _ (List.mem_append_left _ (List.mem_append_left _ (List.mem_append_left _ (List.mem_append_left _ (List.mem_append_left _ (List.mem_of_getElem? (l := wsX8_addWord_r1) (i := 2) rfl))))))))
theorem mw_X8_addWord_1 : (Cond.classLink RX8 52 "java/lang/IllegalStateException" : Cond) ∈ wsX8_addWord := (List.mem_cons_of_mem _ (List.mem_append_left _ (List.mem_append_left _ (List.mem_append_left _ (List.mem_append_left _ (List.mem_append_left _ (List.mem_append_left _ (List.mem_of_getElem? (l := wsX8_addWord_r1) (i := 0) rfl))))))))
theorem mw_X8_addWord_2 : (Cond.initialized "java/lang/IllegalStateException" : Cond) ∈ wsX8_addWord := (List.mem_cons_of_mem _ (List.mem_append_left _ (List.mem_append_left _ (List.mem_append_left _ (List.mem_append_left _ (List.mem_append_left _ (List.mem_append_left _ (List.mem_of_getElem? (l := wsX8_addWord_r1) (i := 1) rfl))))))))
theorem mi_X8_addWord_X8 : ∀ w ∈ wsX80, w ∈ wsX8_addWord := fun _ h => (List.mem_cons_of_mem _ (List.mem_append_left _ (List.mem_append_left _ (List.mem_append_left _ (List.mem_append_left _ (List.mem_append_right _ h))))))
theorem ma_X8_addWord_56 : ∀ w ∈ (vx_atS RX8 56 "java/lang/IllegalStateException" ["java/lang/RuntimeException", "java/lang/Exception"]).filter goodWord, w ∈ wsX8_addWord := fun _ h => (List.mem_cons_of_mem _ (List.mem_append_left _ (List.mem_append_right _ h)))
set_option maxHeartbeats 4000000 in
set_option maxRecDepth 100000 in
theorem c_X8_addWord (l : Launch) (g : Gx) (hst : l.stackTraces = false) (a0 a1 a2 a3 a4 a5 a6 a7 a8 a9 : Nat) (v0 : Int32) (v1 : Nat → Int64) (p1 : Int64) {post : Int32 → Int32 → (Nat → Int64) → Prop} {postX : String → Int32 → (Nat → Int64) → Prop} (h : P_X8_addWord post postX p1 v0 v1) : ce l g yX8_addWord wsX8_addWord (rm_X8_addWord) [.ref a0, .long p1] (W_X8_addWord g a0 a1 a2 a3 a4 a5 a6 a7 a8 a9 v0 v1) (fun v X1 => ∃ (r : Int32) (uv0 : Int32) (uv1 : Nat → Int64), v = some (.int r) ∧ X1 = W_X8_addWord g a0 a1 a2 a3 a4 a5 a6 a7 a8 a9 uv0 uv1 ∧ post r uv0 uv1) (fun E X1 => ∃ (uv0 : Int32) (uv1 : Nat → Int64), X1 = W_X8_addWord g a0 a1 a2 a3 a4 a5 a6 a7 a8 a9 uv0 uv1 ∧ postX E uv0 uv1) := by
  refine ce_of (cc := cX8_addWord) (nL := 3) (ret := (some .int)) (by decide +kernel) rfl (Nat.le_of_ble_eq_true rfl) ?_
  intro x hf hl hg hn hi hr hx
  subst hl
  subst hg
  show ww x (W_X8_addWord (xg x) a0 a1 a2 a3 a4 a5 a6 a7 a8 a9 v0 v1) [(0, .ref a0), (1, .long p1)] 0 0 0 []
  unfold P_X8_addWord at h
  refine xw_lload_n hf (pc := 0) dX8_addWord_0 rfl 1 rfl ?_
  refine xw_callSX hf (pc := 1) (nA := 1) (Xr := W_X8_addWord (xg x) a0 a1 a2 a3 a4 a5 a6 a7 a8 a9 v0 v1) (rest := []) (c_X8_requireWord (xl x) (xg x) hst p1 h) gX8_addWord_X8_requireWord (by rfl) rfl (by decide +kernel) ⟨⟨(Nat.le_of_ble_eq_true rfl), (Nat.le_of_ble_eq_true rfl)⟩, (Nat.le_of_ble_eq_true rfl), (Nat.le_of_ble_eq_true rfl)⟩ (Nat.le_of_ble_eq_true rfl) (sb_rf _) rfl dX8_addWord_1 (fun v X1 hp => ?_) (fun E10 X1 hp => ?_)
  · obtain ⟨rfl, rfl, h⟩ := hp
    show ww x (W_X8_addWord (xg x) a0 a1 a2 a3 a4 a5 a6 a7 a8 a9 v0 v1) [(0, .ref a0), (1, .long p1)] 1 6 4 []
    refine xw_aload_n hf (pc := 4) dX8_addWord_4 rfl 0 rfl ?_
    refine xw_get hf (pc := 5) dX8_addWord_5 (T := TX8) mi_X8_addWord_X8 rfl 0 rfl 0 (by decide) rfl mw_X8_addWord_0 rfl ?_
    refine xw_lload_n hf (pc := 8) dX8_addWord_8 rfl 1 rfl ?_
    refine xw_callV hf (pc := 9) (nA := 1) (Xr := [(a0, .inr (8, [.ref a1, .ref a4, .ref a5, .ref a6, .ref a7]))]) (rest := []) (T := TX1) (c_X1_contains (xl x) (xg x) a1 a2 a3 a8 a9 v0 v1 p1 h) gX8_addWord_X1_contains (by rfl) rfl rfl (by decide +kernel) ⟨⟨(Nat.le_of_ble_eq_true rfl), (Nat.le_of_ble_eq_true rfl)⟩, (Nat.le_of_ble_eq_true rfl), (Nat.le_of_ble_eq_true rfl)⟩ (Nat.le_of_ble_eq_true rfl) rfl rfl (sb_of [1, 2, 3, 0] rfl rfl) rfl dX8_addWord_9 (fun v X1 hp => ?_)
    obtain ⟨r2, rfl, rfl, h⟩ := hp
    refine xw_X (sb_of [3, 0, 1, 2] rfl rfl) (show ww x (W_X8_addWord (xg x) a0 a1 a2 a3 a4 a5 a6 a7 a8 a9 v0 v1) [(0, .ref a0), (1, .long p1)] 1 6 12 [.int r2] from ?_)
    refine xw_if_eq hf (pc := 12) dX8_addWord_12 (c := r2 = 0) Iff.rfl (tgt := 25) rfl ⟨fun c => ?_, fun c => ?_⟩
    · have h := h.1 c
      refine xw_aload_n hf (pc := 25) dX8_addWord_25 rfl 0 rfl ?_
      refine xw_get hf (pc := 26) dX8_addWord_26 (T := TX8) mi_X8_addWord_X8 rfl 0 rfl 0 (by decide) rfl mw_X8_addWord_0 rfl ?_
      refine xw_callV hf (pc := 29) (nA := 0) (Xr := [(a0, .inr (8, [.ref a1, .ref a4, .ref a5, .ref a6, .ref a7])), (a2, .inr (7, [.ref a3, .int v0])), (a3, .inl (gJ (xg x), 60, .inr (.inl v1)))]) (rest := []) (T := TX1) (c_X1_words (xl x) (xg x) a1 a2 a8 a9 h) gX8_addWord_X1_words (by rfl) rfl rfl (by decide +kernel) ⟨⟨(Nat.le_of_ble_eq_true rfl), (Nat.le_of_ble_eq_true rfl)⟩, (Nat.le_of_ble_eq_true rfl), (Nat.le_of_ble_eq_true rfl)⟩ (Nat.le_of_ble_eq_true rfl) rfl rfl (sb_of [1, 0, 2, 3] rfl rfl) rfl dX8_addWord_29 (fun v X1 hp => ?_)
      obtain ⟨rfl, rfl, h⟩ := hp
      refine xw_X (sb_of [1, 0, 2, 3] rfl rfl) (show ww x (W_X8_addWord (xg x) a0 a1 a2 a3 a4 a5 a6 a7 a8 a9 v0 v1) [(0, .ref a0), (1, .long p1)] 1 6 32 [.ref a2] from ?_)
      refine xw_callV hf (pc := 32) (nA := 0) (Xr := [(a0, .inr (8, [.ref a1, .ref a4, .ref a5, .ref a6, .ref a7])), (a1, .inr (2, [.ref a2, .ref a8, .ref a9])), (a3, .inl (gJ (xg x), 60, .inr (.inl v1)))]) (rest := []) (T := TX6) (c_X6_isFull (xl x) (xg x) a2 a3 v0 h) gX8_addWord_X6_isFull (by rfl) rfl rfl (by decide +kernel) ⟨⟨(Nat.le_of_ble_eq_true rfl), (Nat.le_of_ble_eq_true rfl)⟩, (Nat.le_of_ble_eq_true rfl), (Nat.le_of_ble_eq_true rfl)⟩ (Nat.le_of_ble_eq_true rfl) rfl rfl (sb_of [2, 0, 1, 3] rfl rfl) rfl dX8_addWord_32 (fun v X1 hp => ?_)
      obtain ⟨r4, rfl, rfl, h⟩ := hp
      refine xw_X (sb_of [1, 2, 0, 3] rfl rfl) (show ww x (W_X8_addWord (xg x) a0 a1 a2 a3 a4 a5 a6 a7 a8 a9 v0 v1) [(0, .ref a0), (1, .long p1)] 1 6 35 [.int r4] from ?_)
      refine xw_if_eq hf (pc := 35) dX8_addWord_35 (c := r4 = 0) Iff.rfl (tgt := 48) rfl ⟨fun c => ?_, fun c => ?_⟩
      · have h := h.1 c
        refine xw_aload_n hf (pc := 48) dX8_addWord_48 rfl 0 rfl ?_
        refine xw_get hf (pc := 49) dX8_addWord_49 (T := TX8) mi_X8_addWord_X8 rfl 0 rfl 0 (by decide) rfl mw_X8_addWord_0 rfl ?_
        refine xw_lload_n hf (pc := 52) dX8_addWord_52 rfl 1 rfl ?_
        refine xw_callV hf (pc := 53) (nA := 1) (Xr := [(a0, .inr (8, [.ref a1, .ref a4, .ref a5, .ref a6, .ref a7]))]) (rest := []) (T := TX1) (c_X1_insert (xl x) (xg x) a1 a2 a3 a8 a9 v0 v1 p1 h) gX8_addWord_X1_insert (by rfl) rfl rfl (by decide +kernel) ⟨⟨(Nat.le_of_ble_eq_true rfl), (Nat.le_of_ble_eq_true rfl)⟩, (Nat.le_of_ble_eq_true rfl), (Nat.le_of_ble_eq_true rfl)⟩ (Nat.le_of_ble_eq_true rfl) rfl rfl (sb_of [1, 2, 3, 0] rfl rfl) rfl dX8_addWord_53 (fun v X1 hp => ?_)
        obtain ⟨w6, w7, rfl, rfl, h⟩ := hp
        refine xw_X (sb_of [3, 0, 1, 2] rfl rfl) (show ww x (W_X8_addWord (xg x) a0 a1 a2 a3 a4 a5 a6 a7 a8 a9 w6 w7) [(0, .ref a0), (1, .long p1)] 1 6 56 [] from ?_)
        refine xw_aload_n hf (pc := 56) dX8_addWord_56 rfl 0 rfl ?_
        refine xw_get hf (pc := 57) dX8_addWord_57 (T := TX8) mi_X8_addWord_X8 rfl 0 rfl 0 (by decide) rfl mw_X8_addWord_0 rfl ?_
        refine xw_callV hf (pc := 60) (nA := 0) (Xr := [(a0, .inr (8, [.ref a1, .ref a4, .ref a5, .ref a6, .ref a7])), (a2, .inr (7, [.ref a3, .int w6])), (a3, .inl (gJ (xg x), 60, .inr (.inl w7)))]) (rest := []) (T := TX1) (c_X1_words (xl x) (xg x) a1 a2 a8 a9 h) gX8_addWord_X1_words (by rfl) rfl rfl (by decide +kernel) ⟨⟨(Nat.le_of_ble_eq_true rfl), (Nat.le_of_ble_eq_true rfl)⟩, (Nat.le_of_ble_eq_true rfl), (Nat.le_of_ble_eq_true rfl)⟩ (Nat.le_of_ble_eq_true rfl) rfl rfl (sb_of [1, 0, 2, 3] rfl rfl) rfl dX8_addWord_60 (fun v X1 hp => ?_)
        obtain ⟨rfl, rfl, h⟩ := hp
        refine xw_X (sb_of [1, 0, 2, 3] rfl rfl) (show ww x (W_X8_addWord (xg x) a0 a1 a2 a3 a4 a5 a6 a7 a8 a9 w6 w7) [(0, .ref a0), (1, .long p1)] 1 6 63 [.ref a2] from ?_)
        refine xw_callV hf (pc := 63) (nA := 0) (Xr := [(a0, .inr (8, [.ref a1, .ref a4, .ref a5, .ref a6, .ref a7])), (a1, .inr (2, [.ref a2, .ref a8, .ref a9])), (a3, .inl (gJ (xg x), 60, .inr (.inl w7)))]) (rest := []) (T := TX6) (c_X6_size (xl x) (xg x) a2 a3 w6 h) gX8_addWord_X6_size (by rfl) rfl rfl (by decide +kernel) ⟨⟨(Nat.le_of_ble_eq_true rfl), (Nat.le_of_ble_eq_true rfl)⟩, (Nat.le_of_ble_eq_true rfl), (Nat.le_of_ble_eq_true rfl)⟩ (Nat.le_of_ble_eq_true rfl) rfl rfl (sb_of [2, 0, 1, 3] rfl rfl) rfl dX8_addWord_63 (fun v X1 hp => ?_)
        obtain ⟨r9, rfl, rfl, h⟩ := hp
        refine xw_X (sb_of [1, 2, 0, 3] rfl rfl) (show ww x (W_X8_addWord (xg x) a0 a1 a2 a3 a4 a5 a6 a7 a8 a9 w6 w7) [(0, .ref a0), (1, .long p1)] 1 6 66 [.int r9] from ?_)
        exact xw_iret hf (pc := 66) dX8_addWord_66 hr (Nat.le_of_ble_eq_true rfl) (Nat.le_of_ble_eq_true rfl) ⟨_, _, _, rfl, rfl, h⟩
      · have h := h.2 c
        exact xw_throw hf hst hx (pc := 38) (rest := []) (E := sISE) (text := "the dictionary is full") mw_X8_addWord_1 mw_X8_addWord_2 (by decide +kernel) (by decide +kernel) ma_X8_addWord_56 tf_56 tv_56 tw_56 dX8_addWord_38 dX8_addWord_41 dX8_addWord_42 dX8_addWord_44 dX8_addWord_47 ⟨⟨(Nat.le_of_ble_eq_true rfl), (Nat.le_of_ble_eq_true rfl)⟩, (Nat.le_of_ble_eq_true rfl), (Nat.le_of_ble_eq_true rfl)⟩ ⟨(Nat.le_of_ble_eq_true rfl), (Nat.le_of_ble_eq_true rfl)⟩ (Nat.le_of_ble_eq_true rfl) ⟨_, _, rfl, h⟩
    · have h := h.2 c
      exact xw_throw hf hst hx (pc := 15) (rest := []) (E := sISE) (text := "the word is in the dictionary") mw_X8_addWord_1 mw_X8_addWord_2 (by decide +kernel) (by decide +kernel) ma_X8_addWord_56 tf_56 tv_56 tw_56 dX8_addWord_15 dX8_addWord_18 dX8_addWord_19 dX8_addWord_21 dX8_addWord_24 ⟨⟨(Nat.le_of_ble_eq_true rfl), (Nat.le_of_ble_eq_true rfl)⟩, (Nat.le_of_ble_eq_true rfl), (Nat.le_of_ble_eq_true rfl)⟩ ⟨(Nat.le_of_ble_eq_true rfl), (Nat.le_of_ble_eq_true rfl)⟩ (Nat.le_of_ble_eq_true rfl) ⟨_, _, rfl, h⟩
  · obtain ⟨rfl, h⟩ := hp
    show wx x (W_X8_addWord (xg x) a0 a1 a2 a3 a4 a5 a6 a7 a8 a9 v0 v1) [(0, .ref a0), (1, .long p1)] 1 6 1 E10 []
    exact xw_out hx (Nat.le_of_ble_eq_true rfl) (Nat.le_of_ble_eq_true rfl) ⟨_, _, rfl, h⟩
abbrev W_X8_removeWord (g : Gx) (a0 a1 a2 a3 a4 a5 a6 a7 a8 a9 : Nat) (v0 : Int32) (v1 : Nat → Int64) : va_W := [(a0, .inr (8, [.ref a1, .ref a4, .ref a5, .ref a6, .ref a7])), (a1, .inr (2, [.ref a2, .ref a8, .ref a9])), (a2, .inr (7, [.ref a3, .int v0])), (a3, .inl (gJ g, 60, .inr (.inl v1)))]
abbrev rm_X8_removeWord : Room := { frames := 8, cells := 2, slots := 12, locals := 121 }
theorem mw_X8_removeWord_0 : (Cond.fieldLink RX8 10 "AnagramButcher" "dictionary" "LAnagramButcher$Dictionary;" : Cond) ∈ wsX8_removeWord := (List.mem_cons_of_mem _ (List.mem_append_left _ (List.mem_append_left _ (List.mem_append_left _ (List.mem_append_left _ (List.mem_append_left _ (List.mem_append_left _ (List.mem_of_getElem? (l := wsX8_removeWord_r1) (i := 2) rfl))))))))
theorem mw_X8_removeWord_1 : (Cond.classLink RX8 78 "java/util/NoSuchElementException" : Cond) ∈ wsX8_removeWord := (List.mem_cons_of_mem _ (List.mem_append_left _ (List.mem_append_left _ (List.mem_append_left _ (List.mem_append_left _ (List.mem_append_left _ (List.mem_append_left _ (List.mem_of_getElem? (l := wsX8_removeWord_r1) (i := 0) rfl))))))))
theorem mw_X8_removeWord_2 : (Cond.initialized "java/util/NoSuchElementException" : Cond) ∈ wsX8_removeWord := (List.mem_cons_of_mem _ (List.mem_append_left _ (List.mem_append_left _ (List.mem_append_left _ (List.mem_append_left _ (List.mem_append_left _ (List.mem_append_left _ (List.mem_of_getElem? (l := wsX8_removeWord_r1) (i := 1) rfl))))))))
theorem mi_X8_removeWord_X8 : ∀ w ∈ wsX80, w ∈ wsX8_removeWord := fun _ h => (List.mem_cons_of_mem _ (List.mem_append_left _ (List.mem_append_left _ (List.mem_append_left _ (List.mem_append_left _ (List.mem_append_right _ h))))))
theorem ma_X8_removeWord_82 : ∀ w ∈ (vx_atS RX8 82 "java/util/NoSuchElementException" ["java/lang/RuntimeException", "java/lang/Exception"]).filter goodWord, w ∈ wsX8_removeWord := fun _ h => (List.mem_cons_of_mem _ (List.mem_append_left _ (List.mem_append_right _ h)))
set_option maxHeartbeats 4000000 in
set_option maxRecDepth 100000 in
theorem c_X8_removeWord (l : Launch) (g : Gx) (hst : l.stackTraces = false) (a0 a1 a2 a3 a4 a5 a6 a7 a8 a9 : Nat) (v0 : Int32) (v1 : Nat → Int64) (p1 : Int64) {post : Int32 → Int32 → (Nat → Int64) → Prop} {postX : String → Int32 → (Nat → Int64) → Prop} (h : P_X8_removeWord post postX p1 v0 v1) : ce l g yX8_removeWord wsX8_removeWord (rm_X8_removeWord) [.ref a0, .long p1] (W_X8_removeWord g a0 a1 a2 a3 a4 a5 a6 a7 a8 a9 v0 v1) (fun v X1 => ∃ (r : Int32) (uv0 : Int32) (uv1 : Nat → Int64), v = some (.int r) ∧ X1 = W_X8_removeWord g a0 a1 a2 a3 a4 a5 a6 a7 a8 a9 uv0 uv1 ∧ post r uv0 uv1) (fun E X1 => ∃ (uv0 : Int32) (uv1 : Nat → Int64), X1 = W_X8_removeWord g a0 a1 a2 a3 a4 a5 a6 a7 a8 a9 uv0 uv1 ∧ postX E uv0 uv1) := by
  refine ce_of (cc := cX8_removeWord) (nL := 3) (ret := (some .int)) (by decide +kernel) rfl (Nat.le_of_ble_eq_true rfl) ?_
  intro x hf hl hg hn hi hr hx
  subst hl
  subst hg
  show ww x (W_X8_removeWord (xg x) a0 a1 a2 a3 a4 a5 a6 a7 a8 a9 v0 v1) [(0, .ref a0), (1, .long p1)] 0 0 0 []
  unfold P_X8_removeWord at h
  refine xw_lload_n hf (pc := 0) dX8_removeWord_0 rfl 1 rfl ?_
  refine xw_callSX hf (pc := 1) (nA := 1) (Xr := W_X8_removeWord (xg x) a0 a1 a2 a3 a4 a5 a6 a7 a8 a9 v0 v1) (rest := []) (c_X8_requireWord (xl x) (xg x) hst p1 h) gX8_removeWord_X8_requireWord (by rfl) rfl (by decide +kernel) ⟨⟨(Nat.le_of_ble_eq_true rfl), (Nat.le_of_ble_eq_true rfl)⟩, (Nat.le_of_ble_eq_true rfl), (Nat.le_of_ble_eq_true rfl)⟩ (Nat.le_of_ble_eq_true rfl) (sb_rf _) rfl dX8_removeWord_1 (fun v X1 hp => ?_) (fun E8 X1 hp => ?_)
  · obtain ⟨rfl, rfl, h⟩ := hp
    show ww x (W_X8_removeWord (xg x) a0 a1 a2 a3 a4 a5 a6 a7 a8 a9 v0 v1) [(0, .ref a0), (1, .long p1)] 1 6 4 []
    refine xw_aload_n hf (pc := 4) dX8_removeWord_4 rfl 0 rfl ?_
    refine xw_get hf (pc := 5) dX8_removeWord_5 (T := TX8) mi_X8_removeWord_X8 rfl 0 rfl 0 (by decide) rfl mw_X8_removeWord_0 rfl ?_
    refine xw_lload_n hf (pc := 8) dX8_removeWord_8 rfl 1 rfl ?_
    refine xw_callV hf (pc := 9) (nA := 1) (Xr := [(a0, .inr (8, [.ref a1, .ref a4, .ref a5, .ref a6, .ref a7]))]) (rest := []) (T := TX1) (c_X1_contains (xl x) (xg x) a1 a2 a3 a8 a9 v0 v1 p1 h) gX8_removeWord_X1_contains (by rfl) rfl rfl (by decide +kernel) ⟨⟨(Nat.le_of_ble_eq_true rfl), (Nat.le_of_ble_eq_true rfl)⟩, (Nat.le_of_ble_eq_true rfl), (Nat.le_of_ble_eq_true rfl)⟩ (Nat.le_of_ble_eq_true rfl) rfl rfl (sb_of [1, 2, 3, 0] rfl rfl) rfl dX8_removeWord_9 (fun v X1 hp => ?_)
    obtain ⟨r2, rfl, rfl, h⟩ := hp
    refine xw_X (sb_of [3, 0, 1, 2] rfl rfl) (show ww x (W_X8_removeWord (xg x) a0 a1 a2 a3 a4 a5 a6 a7 a8 a9 v0 v1) [(0, .ref a0), (1, .long p1)] 1 6 12 [.int r2] from ?_)
    refine xw_if_ne hf (pc := 12) dX8_removeWord_12 (c := r2 = 0) Iff.rfl (tgt := 25) rfl ⟨fun c => ?_, fun c => ?_⟩
    · have h := h.1 c
      exact xw_throw hf hst hx (pc := 15) (rest := []) (E := sNSE) (text := "the word is not in the dictionary") mw_X8_removeWord_1 mw_X8_removeWord_2 (by decide +kernel) (by decide +kernel) ma_X8_removeWord_82 tf_82 tv_82 tw_82 dX8_removeWord_15 dX8_removeWord_18 dX8_removeWord_19 dX8_removeWord_21 dX8_removeWord_24 ⟨⟨(Nat.le_of_ble_eq_true rfl), (Nat.le_of_ble_eq_true rfl)⟩, (Nat.le_of_ble_eq_true rfl), (Nat.le_of_ble_eq_true rfl)⟩ ⟨(Nat.le_of_ble_eq_true rfl), (Nat.le_of_ble_eq_true rfl)⟩ (Nat.le_of_ble_eq_true rfl) ⟨_, _, rfl, h⟩
    · have h := h.2 c
      refine xw_aload_n hf (pc := 25) dX8_removeWord_25 rfl 0 rfl ?_
      refine xw_get hf (pc := 26) dX8_removeWord_26 (T := TX8) mi_X8_removeWord_X8 rfl 0 rfl 0 (by decide) rfl mw_X8_removeWord_0 rfl ?_
      refine xw_lload_n hf (pc := 29) dX8_removeWord_29 rfl 1 rfl ?_
      refine xw_callV hf (pc := 30) (nA := 1) (Xr := [(a0, .inr (8, [.ref a1, .ref a4, .ref a5, .ref a6, .ref a7]))]) (rest := []) (T := TX1) (c_X1_delete (xl x) (xg x) a1 a2 a3 a8 a9 v0 v1 p1 h) gX8_removeWord_X1_delete (by rfl) rfl rfl (by decide +kernel) ⟨⟨(Nat.le_of_ble_eq_true rfl), (Nat.le_of_ble_eq_true rfl)⟩, (Nat.le_of_ble_eq_true rfl), (Nat.le_of_ble_eq_true rfl)⟩ (Nat.le_of_ble_eq_true rfl) rfl rfl (sb_of [1, 2, 3, 0] rfl rfl) rfl dX8_removeWord_30 (fun v X1 hp => ?_)
      obtain ⟨w4, w5, rfl, rfl, h⟩ := hp
      refine xw_X (sb_of [3, 0, 1, 2] rfl rfl) (show ww x (W_X8_removeWord (xg x) a0 a1 a2 a3 a4 a5 a6 a7 a8 a9 w4 w5) [(0, .ref a0), (1, .long p1)] 1 6 33 [] from ?_)
      refine xw_aload_n hf (pc := 33) dX8_removeWord_33 rfl 0 rfl ?_
      refine xw_get hf (pc := 34) dX8_removeWord_34 (T := TX8) mi_X8_removeWord_X8 rfl 0 rfl 0 (by decide) rfl mw_X8_removeWord_0 rfl ?_
      refine xw_callV hf (pc := 37) (nA := 0) (Xr := [(a0, .inr (8, [.ref a1, .ref a4, .ref a5, .ref a6, .ref a7])), (a2, .inr (7, [.ref a3, .int w4])), (a3, .inl (gJ (xg x), 60, .inr (.inl w5)))]) (rest := []) (T := TX1) (c_X1_words (xl x) (xg x) a1 a2 a8 a9 h) gX8_removeWord_X1_words (by rfl) rfl rfl (by decide +kernel) ⟨⟨(Nat.le_of_ble_eq_true rfl), (Nat.le_of_ble_eq_true rfl)⟩, (Nat.le_of_ble_eq_true rfl), (Nat.le_of_ble_eq_true rfl)⟩ (Nat.le_of_ble_eq_true rfl) rfl rfl (sb_of [1, 0, 2, 3] rfl rfl) rfl dX8_removeWord_37 (fun v X1 hp => ?_)
      obtain ⟨rfl, rfl, h⟩ := hp
      refine xw_X (sb_of [1, 0, 2, 3] rfl rfl) (show ww x (W_X8_removeWord (xg x) a0 a1 a2 a3 a4 a5 a6 a7 a8 a9 w4 w5) [(0, .ref a0), (1, .long p1)] 1 6 40 [.ref a2] from ?_)
      refine xw_callV hf (pc := 40) (nA := 0) (Xr := [(a0, .inr (8, [.ref a1, .ref a4, .ref a5, .ref a6, .ref a7])), (a1, .inr (2, [.ref a2, .ref a8, .ref a9])), (a3, .inl (gJ (xg x), 60, .inr (.inl w5)))]) (rest := []) (T := TX6) (c_X6_size (xl x) (xg x) a2 a3 w4 h) gX8_removeWord_X6_size (by rfl) rfl rfl (by decide +kernel) ⟨⟨(Nat.le_of_ble_eq_true rfl), (Nat.le_of_ble_eq_true rfl)⟩, (Nat.le_of_ble_eq_true rfl), (Nat.le_of_ble_eq_true rfl)⟩ (Nat.le_of_ble_eq_true rfl) rfl rfl (sb_of [2, 0, 1, 3] rfl rfl) rfl dX8_removeWord_40 (fun v X1 hp => ?_)
      obtain ⟨r7, rfl, rfl, h⟩ := hp
      refine xw_X (sb_of [1, 2, 0, 3] rfl rfl) (show ww x (W_X8_removeWord (xg x) a0 a1 a2 a3 a4 a5 a6 a7 a8 a9 w4 w5) [(0, .ref a0), (1, .long p1)] 1 6 43 [.int r7] from ?_)
      exact xw_iret hf (pc := 43) dX8_removeWord_43 hr (Nat.le_of_ble_eq_true rfl) (Nat.le_of_ble_eq_true rfl) ⟨_, _, _, rfl, rfl, h⟩
  · obtain ⟨rfl, h⟩ := hp
    show wx x (W_X8_removeWord (xg x) a0 a1 a2 a3 a4 a5 a6 a7 a8 a9 v0 v1) [(0, .ref a0), (1, .long p1)] 1 6 1 E8 []
    exact xw_out hx (Nat.le_of_ble_eq_true rfl) (Nat.le_of_ble_eq_true rfl) ⟨_, _, rfl, h⟩
abbrev W_X8_wordCount (g : Gx) (a0 a1 a2 a3 a4 a5 a6 a7 a8 a9 : Nat) (v0 : Int32) : va_W := [(a0, .inr (8, [.ref a1, .ref a3, .ref a4, .ref a5, .ref a6])), (a1, .inr (2, [.ref a2, .ref a7, .ref a8])), (a2, .inr (7, [.ref a9, .int v0]))]
abbrev rm_X8_wordCount : Room := { frames := 1, cells := 0, slots := 0, locals := 20 }
theorem mw_X8_wordCount_0 : (Cond.fieldLink RX8 10 "AnagramButcher" "dictionary" "LAnagramButcher$Dictionary;" : Cond) ∈ wsX8_wordCount := (List.mem_cons_of_mem _ (List.mem_append_left _ (List.mem_append_left _ (List.mem_append_left _ (List.mem_of_getElem? (i := 0) rfl)))))
theorem mi_X8_wordCount_X8 : ∀ w ∈ wsX80, w ∈ wsX8_wordCount := fun _ h => (List.mem_cons_of_mem _ (List.mem_append_left _ (List.mem_append_left _ (List.mem_append_right _ h))))
set_option maxHeartbeats 4000000 in
set_option maxRecDepth 100000 in
theorem c_X8_wordCount (l : Launch) (g : Gx) (a0 a1 a2 a3 a4 a5 a6 a7 a8 a9 : Nat) (v0 : Int32) {post : Int32 → Prop} (h : P_X8_wordCount post v0) : cm l g yX8_wordCount wsX8_wordCount (rm_X8_wordCount) [.ref a0] (W_X8_wordCount g a0 a1 a2 a3 a4 a5 a6 a7 a8 a9 v0) (fun v X1 => ∃ (r : Int32), v = some (.int r) ∧ X1 = W_X8_wordCount g a0 a1 a2 a3 a4 a5 a6 a7 a8 a9 v0 ∧ post r) := by
  refine cm_of (cc := cX8_wordCount) (nL := 1) (ret := (some .int)) (by decide +kernel) rfl (Nat.le_of_ble_eq_true rfl) ?_
  intro x hf hl hg hn hi hr
  subst hl
  subst hg
  show ww x (W_X8_wordCount (xg x) a0 a1 a2 a3 a4 a5 a6 a7 a8 a9 v0) [(0, .ref a0)] 0 0 0 []
  unfold P_X8_wordCount at h
  refine xw_aload_n hf (pc := 0) dX8_wordCount_0 rfl 0 rfl ?_
  refine xw_get hf (pc := 1) dX8_wordCount_1 (T := TX8) mi_X8_wordCount_X8 rfl 0 rfl 0 (by decide) rfl mw_X8_wordCount_0 rfl ?_
  refine xw_callV hf (pc := 4) (nA := 0) (Xr := [(a0, .inr (8, [.ref a1, .ref a3, .ref a4, .ref a5, .ref a6])), (a2, .inr (7, [.ref a9, .int v0]))]) (rest := []) (T := TX1) (c_X1_words (xl x) (xg x) a1 a2 a7 a8 h) gX8_wordCount_X1_words (by rfl) rfl rfl (by decide +kernel) ⟨⟨(Nat.le_of_ble_eq_true rfl), (Nat.le_of_ble_eq_true rfl)⟩, (Nat.le_of_ble_eq_true rfl), (Nat.le_of_ble_eq_true rfl)⟩ (Nat.le_of_ble_eq_true rfl) rfl rfl (sb_of [1, 0, 2] rfl rfl) rfl dX8_wordCount_4 (fun v X1 hp => ?_)
  obtain ⟨rfl, rfl, h⟩ := hp
  refine xw_X (sb_of [1, 0, 2] rfl rfl) (show ww x (W_X8_wordCount (xg x) a0 a1 a2 a3 a4 a5 a6 a7 a8 a9 v0) [(0, .ref a0)] 0 0 7 [.ref a2] from ?_)
  refine xw_callV hf (pc := 7) (nA := 0) (Xr := [(a0, .inr (8, [.ref a1, .ref a3, .ref a4, .ref a5, .ref a6])), (a1, .inr (2, [.ref a2, .ref a7, .ref a8]))]) (rest := []) (T := TX6) (c_X6_size (xl x) (xg x) a2 a9 v0 h) gX8_wordCount_X6_size (by rfl) rfl rfl (by decide +kernel) ⟨⟨(Nat.le_of_ble_eq_true rfl), (Nat.le_of_ble_eq_true rfl)⟩, (Nat.le_of_ble_eq_true rfl), (Nat.le_of_ble_eq_true rfl)⟩ (Nat.le_of_ble_eq_true rfl) rfl rfl (sb_of [2, 0, 1] rfl rfl) rfl dX8_wordCount_7 (fun v X1 hp => ?_)
  obtain ⟨r2, rfl, rfl, h⟩ := hp
  refine xw_X (sb_of [1, 2, 0] rfl rfl) (show ww x (W_X8_wordCount (xg x) a0 a1 a2 a3 a4 a5 a6 a7 a8 a9 v0) [(0, .ref a0)] 0 0 10 [.int r2] from ?_)
  exact xw_iret hf (pc := 10) dX8_wordCount_10 hr (Nat.le_of_ble_eq_true rfl) (Nat.le_of_ble_eq_true rfl) ⟨_, rfl, rfl, h⟩
abbrev W_X8_wordAt (g : Gx) (a0 a1 a2 a3 a4 a5 a6 a7 a8 a9 : Nat) (v0 : Int32) (v1 : Nat → Int64) : va_W := [(a0, .inr (8, [.ref a1, .ref a4, .ref a5, .ref a6, .ref a7])), (a1, .inr (2, [.ref a2, .ref a8, .ref a9])), (a2, .inr (7, [.ref a3, .int v0])), (a3, .inl (gJ g, 60, .inr (.inl v1)))]
abbrev rm_X8_wordAt : Room := { frames := 8, cells := 1, slots := 6, locals := 121 }
theorem mw_X8_wordAt_0 : (Cond.fieldLink RX8 10 "AnagramButcher" "dictionary" "LAnagramButcher$Dictionary;" : Cond) ∈ wsX8_wordAt := (List.mem_cons_of_mem _ (List.mem_append_left _ (List.mem_append_left _ (List.mem_append_left _ (List.mem_append_left _ (List.mem_of_getElem? (i := 0) rfl))))))
theorem mi_X8_wordAt_X8 : ∀ w ∈ wsX80, w ∈ wsX8_wordAt := fun _ h => (List.mem_cons_of_mem _ (List.mem_append_left _ (List.mem_append_left _ (List.mem_append_left _ (List.mem_append_right _ h)))))
set_option maxHeartbeats 4000000 in
set_option maxRecDepth 100000 in
theorem c_X8_wordAt (l : Launch) (g : Gx) (hst : l.stackTraces = false) (a0 a1 a2 a3 a4 a5 a6 a7 a8 a9 : Nat) (v0 : Int32) (v1 : Nat → Int64) (p1 : Int32) {post : Int64 → Prop} {postX : String → Prop} (h : P_X8_wordAt post postX p1 v0 v1) : ce l g yX8_wordAt wsX8_wordAt (rm_X8_wordAt) [.ref a0, .int p1] (W_X8_wordAt g a0 a1 a2 a3 a4 a5 a6 a7 a8 a9 v0 v1) (fun v X1 => ∃ (r : Int64), v = some (.long r) ∧ X1 = W_X8_wordAt g a0 a1 a2 a3 a4 a5 a6 a7 a8 a9 v0 v1 ∧ post r) (fun E X1 => X1 = W_X8_wordAt g a0 a1 a2 a3 a4 a5 a6 a7 a8 a9 v0 v1 ∧ postX E ) := by
  refine ce_of (cc := cX8_wordAt) (nL := 2) (ret := (some .long)) (by decide +kernel) rfl (Nat.le_of_ble_eq_true rfl) ?_
  intro x hf hl hg hn hi hr hx
  subst hl
  subst hg
  show ww x (W_X8_wordAt (xg x) a0 a1 a2 a3 a4 a5 a6 a7 a8 a9 v0 v1) [(0, .ref a0), (1, .int p1)] 0 0 0 []
  unfold P_X8_wordAt at h
  refine xw_aload_n hf (pc := 0) dX8_wordAt_0 rfl 0 rfl ?_
  refine xw_get hf (pc := 1) dX8_wordAt_1 (T := TX8) mi_X8_wordAt_X8 rfl 0 rfl 0 (by decide) rfl mw_X8_wordAt_0 rfl ?_
  refine xw_callV hf (pc := 4) (nA := 0) (Xr := [(a0, .inr (8, [.ref a1, .ref a4, .ref a5, .ref a6, .ref a7])), (a2, .inr (7, [.ref a3, .int v0])), (a3, .inl (gJ (xg x), 60, .inr (.inl v1)))]) (rest := []) (T := TX1) (c_X1_words (xl x) (xg x) a1 a2 a8 a9 h) gX8_wordAt_X1_words (by rfl) rfl rfl (by decide +kernel) ⟨⟨(Nat.le_of_ble_eq_true rfl), (Nat.le_of_ble_eq_true rfl)⟩, (Nat.le_of_ble_eq_true rfl), (Nat.le_of_ble_eq_true rfl)⟩ (Nat.le_of_ble_eq_true rfl) rfl rfl (sb_of [1, 0, 2, 3] rfl rfl) rfl dX8_wordAt_4 (fun v X1 hp => ?_)
  obtain ⟨rfl, rfl, h⟩ := hp
  refine xw_X (sb_of [1, 0, 2, 3] rfl rfl) (show ww x (W_X8_wordAt (xg x) a0 a1 a2 a3 a4 a5 a6 a7 a8 a9 v0 v1) [(0, .ref a0), (1, .int p1)] 0 0 7 [.ref a2] from ?_)
  refine xw_iload_n hf (pc := 7) dX8_wordAt_7 rfl 1 rfl ?_
  refine xw_callSX hf (pc := 8) (nA := 2) (Xr := [(a0, .inr (8, [.ref a1, .ref a4, .ref a5, .ref a6, .ref a7])), (a1, .inr (2, [.ref a2, .ref a8, .ref a9]))]) (rest := []) (c_X8_requireWordOf (xl x) (xg x) hst a2 a3 v0 v1 p1 h) gX8_wordAt_X8_requireWordOf (by rfl) rfl (by decide +kernel) ⟨⟨(Nat.le_of_ble_eq_true rfl), (Nat.le_of_ble_eq_true rfl)⟩, (Nat.le_of_ble_eq_true rfl), (Nat.le_of_ble_eq_true rfl)⟩ (Nat.le_of_ble_eq_true rfl) (sb_of [2, 3, 0, 1] rfl rfl) rfl dX8_wordAt_8 (fun v X1 hp => ?_) (fun E3 X1 hp => ?_)
  · obtain ⟨r2, rfl, rfl, h⟩ := hp
    refine xw_X (sb_of [2, 3, 0, 1] rfl rfl) (show ww x (W_X8_wordAt (xg x) a0 a1 a2 a3 a4 a5 a6 a7 a8 a9 v0 v1) [(0, .ref a0), (1, .int p1)] 1 6 11 [.long r2] from ?_)
    exact xw_lret hf (pc := 11) dX8_wordAt_11 hr (Nat.le_of_ble_eq_true rfl) (Nat.le_of_ble_eq_true rfl) ⟨_, rfl, rfl, h⟩
  · obtain ⟨rfl, h⟩ := hp
    refine xe_X (sb_of [2, 3, 0, 1] rfl rfl) (show wx x (W_X8_wordAt (xg x) a0 a1 a2 a3 a4 a5 a6 a7 a8 a9 v0 v1) [(0, .ref a0), (1, .int p1)] 1 6 8 E3 [] from ?_)
    exact xw_out hx (Nat.le_of_ble_eq_true rfl) (Nat.le_of_ble_eq_true rfl) ⟨rfl, h⟩
abbrev W_X8_hasWord (g : Gx) (a0 a1 a2 a3 a4 a5 a6 a7 a8 a9 : Nat) (v0 : Int32) (v1 : Nat → Int64) : va_W := [(a0, .inr (8, [.ref a1, .ref a4, .ref a5, .ref a6, .ref a7])), (a1, .inr (2, [.ref a2, .ref a8, .ref a9])), (a2, .inr (7, [.ref a3, .int v0])), (a3, .inl (gJ g, 60, .inr (.inl v1)))]
abbrev rm_X8_hasWord : Room := { frames := 8, cells := 1, slots := 6, locals := 121 }
theorem mw_X8_hasWord_0 : (Cond.fieldLink RX8 10 "AnagramButcher" "dictionary" "LAnagramButcher$Dictionary;" : Cond) ∈ wsX8_hasWord := (List.mem_cons_of_mem _ (List.mem_append_left _ (List.mem_append_left _ (List.mem_append_left _ (List.mem_append_left _ (List.mem_append_left _ (List.mem_of_getElem? (l := wsX8_hasWord_r1) (i := 0) rfl)))))))
theorem mi_X8_hasWord_X8 : ∀ w ∈ wsX80, w ∈ wsX8_hasWord := fun _ h => (List.mem_cons_of_mem _ (List.mem_append_left _ (List.mem_append_left _ (List.mem_append_left _ (List.mem_append_right _ h)))))
set_option maxHeartbeats 4000000 in
set_option maxRecDepth 100000 in
theorem c_X8_hasWord (l : Launch) (g : Gx) (hst : l.stackTraces = false) (a0 a1 a2 a3 a4 a5 a6 a7 a8 a9 : Nat) (v0 : Int32) (v1 : Nat → Int64) (p1 : Int64) {post : Int32 → Prop} {postX : String → Prop} (h : P_X8_hasWord post postX p1 v0 v1) : ce l g yX8_hasWord wsX8_hasWord (rm_X8_hasWord) [.ref a0, .long p1] (W_X8_hasWord g a0 a1 a2 a3 a4 a5 a6 a7 a8 a9 v0 v1) (fun v X1 => ∃ (r : Int32), v = some (.int r) ∧ X1 = W_X8_hasWord g a0 a1 a2 a3 a4 a5 a6 a7 a8 a9 v0 v1 ∧ post r) (fun E X1 => X1 = W_X8_hasWord g a0 a1 a2 a3 a4 a5 a6 a7 a8 a9 v0 v1 ∧ postX E ) := by
  refine ce_of (cc := cX8_hasWord) (nL := 3) (ret := (some .boolean)) (by decide +kernel) rfl (Nat.le_of_ble_eq_true rfl) ?_
  intro x hf hl hg hn hi hr hx
  subst hl
  subst hg
  show ww x (W_X8_hasWord (xg x) a0 a1 a2 a3 a4 a5 a6 a7 a8 a9 v0 v1) [(0, .ref a0), (1, .long p1)] 0 0 0 []
  unfold P_X8_hasWord at h
  refine xw_lload_n hf (pc := 0) dX8_hasWord_0 rfl 1 rfl ?_
  refine xw_callSX hf (pc := 1) (nA := 1) (Xr := W_X8_hasWord (xg x) a0 a1 a2 a3 a4 a5 a6 a7 a8 a9 v0 v1) (rest := []) (c_X8_requireWord (xl x) (xg x) hst p1 h) gX8_hasWord_X8_requireWord (by rfl) rfl (by decide +kernel) ⟨⟨(Nat.le_of_ble_eq_true rfl), (Nat.le_of_ble_eq_true rfl)⟩, (Nat.le_of_ble_eq_true rfl), (Nat.le_of_ble_eq_true rfl)⟩ (Nat.le_of_ble_eq_true rfl) (sb_rf _) rfl dX8_hasWord_1 (fun v X1 hp => ?_) (fun E3 X1 hp => ?_)
  · obtain ⟨rfl, rfl, h⟩ := hp
    show ww x (W_X8_hasWord (xg x) a0 a1 a2 a3 a4 a5 a6 a7 a8 a9 v0 v1) [(0, .ref a0), (1, .long p1)] 1 6 4 []
    refine xw_aload_n hf (pc := 4) dX8_hasWord_4 rfl 0 rfl ?_
    refine xw_get hf (pc := 5) dX8_hasWord_5 (T := TX8) mi_X8_hasWord_X8 rfl 0 rfl 0 (by decide) rfl mw_X8_hasWord_0 rfl ?_
    refine xw_lload_n hf (pc := 8) dX8_hasWord_8 rfl 1 rfl ?_
    refine xw_callV hf (pc := 9) (nA := 1) (Xr := [(a0, .inr (8, [.ref a1, .ref a4, .ref a5, .ref a6, .ref a7]))]) (rest := []) (T := TX1) (c_X1_contains (xl x) (xg x) a1 a2 a3 a8 a9 v0 v1 p1 h) gX8_hasWord_X1_contains (by rfl) rfl rfl (by decide +kernel) ⟨⟨(Nat.le_of_ble_eq_true rfl), (Nat.le_of_ble_eq_true rfl)⟩, (Nat.le_of_ble_eq_true rfl), (Nat.le_of_ble_eq_true rfl)⟩ (Nat.le_of_ble_eq_true rfl) rfl rfl (sb_of [1, 2, 3, 0] rfl rfl) rfl dX8_hasWord_9 (fun v X1 hp => ?_)
    obtain ⟨r2, rfl, rfl, h⟩ := hp
    refine xw_X (sb_of [3, 0, 1, 2] rfl rfl) (show ww x (W_X8_hasWord (xg x) a0 a1 a2 a3 a4 a5 a6 a7 a8 a9 v0 v1) [(0, .ref a0), (1, .long p1)] 1 6 12 [.int r2] from ?_)
    exact xw_zret hf (pc := 12) dX8_hasWord_12 hr (Nat.le_of_ble_eq_true rfl) (Nat.le_of_ble_eq_true rfl) h.1 ⟨_, rfl, rfl, h.2⟩
  · obtain ⟨rfl, h⟩ := hp
    show wx x (W_X8_hasWord (xg x) a0 a1 a2 a3 a4 a5 a6 a7 a8 a9 v0 v1) [(0, .ref a0), (1, .long p1)] 1 6 1 E3 []
    exact xw_out hx (Nat.le_of_ble_eq_true rfl) (Nat.le_of_ble_eq_true rfl) ⟨rfl, h⟩
abbrev W_X8_anagramCount (g : Gx) (a0 a1 a2 a3 a4 a5 a6 a7 a8 a9 a10 a11 : Nat) (v0 : Int32) (v1 : Nat → Int64) (v2 : Int32) (v3 : Nat → Int64) (v4 : Nat → Int32) : va_W := [(a0, .inr (8, [.ref a1, .ref a8, .ref a9, .ref a10, .ref a11])), (a1, .inr (2, [.ref a2, .ref a4, .ref a6])), (a2, .inr (7, [.ref a3, .int v0])), (a3, .inl (gJ g, 60, .inr (.inl v1))), (a4, .inr (7, [.ref a5, .int v2])), (a5, .inl (gJ g, 60, .inr (.inl v3))), (a6, .inr (3, [.ref a7])), (a7, .inl (gI g, 32, .inl v4))]
abbrev rm_X8_anagramCount : Room := { frames := 8, cells := 1, slots := 6, locals := 121 }
theorem mw_X8_anagramCount_0 : (Cond.fieldLink RX8 10 "AnagramButcher" "dictionary" "LAnagramButcher$Dictionary;" : Cond) ∈ wsX8_anagramCount := (List.mem_cons_of_mem _ (List.mem_append_left _ (List.mem_append_left _ (List.mem_append_left _ (List.mem_append_left _ (List.mem_append_left _ (List.mem_append_left _ (List.mem_of_getElem? (l := wsX8_anagramCount_r1) (i := 0) rfl))))))))
theorem mi_X8_anagramCount_X8 : ∀ w ∈ wsX80, w ∈ wsX8_anagramCount := fun _ h => (List.mem_cons_of_mem _ (List.mem_append_left _ (List.mem_append_left _ (List.mem_append_left _ (List.mem_append_left _ (List.mem_append_right _ h))))))
set_option maxHeartbeats 4000000 in
set_option maxRecDepth 100000 in
theorem c_X8_anagramCount (l : Launch) (g : Gx) (hst : l.stackTraces = false) (a0 a1 a2 a3 a4 a5 a6 a7 a8 a9 a10 a11 : Nat) (v0 : Int32) (v1 : Nat → Int64) (v2 : Int32) (v3 : Nat → Int64) (v4 : Nat → Int32) (p1 : Int64) {post : Int32 → Int32 → (Nat → Int64) → (Nat → Int32) → Prop} {postX : String → Int32 → (Nat → Int64) → (Nat → Int32) → Prop} (h : P_X8_anagramCount post postX p1 v0 v1 v2 v3 v4) : ce l g yX8_anagramCount wsX8_anagramCount (rm_X8_anagramCount) [.ref a0, .long p1] (W_X8_anagramCount g a0 a1 a2 a3 a4 a5 a6 a7 a8 a9 a10 a11 v0 v1 v2 v3 v4) (fun v X1 => ∃ (r : Int32) (uv2 : Int32) (uv3 : Nat → Int64) (uv4 : Nat → Int32), v = some (.int r) ∧ X1 = W_X8_anagramCount g a0 a1 a2 a3 a4 a5 a6 a7 a8 a9 a10 a11 v0 v1 uv2 uv3 uv4 ∧ post r uv2 uv3 uv4) (fun E X1 => ∃ (uv2 : Int32) (uv3 : Nat → Int64) (uv4 : Nat → Int32), X1 = W_X8_anagramCount g a0 a1 a2 a3 a4 a5 a6 a7 a8 a9 a10 a11 v0 v1 uv2 uv3 uv4 ∧ postX E uv2 uv3 uv4) := by
  refine ce_of (cc := cX8_anagramCount) (nL := 3) (ret := (some .int)) (by decide +kernel) rfl (Nat.le_of_ble_eq_true rfl) ?_
  intro x hf hl hg hn hi hr hx
  subst hl
  subst hg
  show ww x (W_X8_anagramCount (xg x) a0 a1 a2 a3 a4 a5 a6 a7 a8 a9 a10 a11 v0 v1 v2 v3 v4) [(0, .ref a0), (1, .long p1)] 0 0 0 []
  unfold P_X8_anagramCount at h
  refine xw_lload_n hf (pc := 0) dX8_anagramCount_0 rfl 1 rfl ?_
  refine xw_callSX hf (pc := 1) (nA := 1) (Xr := W_X8_anagramCount (xg x) a0 a1 a2 a3 a4 a5 a6 a7 a8 a9 a10 a11 v0 v1 v2 v3 v4) (rest := []) (c_X8_requireWord (xl x) (xg x) hst p1 h) gX8_anagramCount_X8_requireWord (by rfl) rfl (by decide +kernel) ⟨⟨(Nat.le_of_ble_eq_true rfl), (Nat.le_of_ble_eq_true rfl)⟩, (Nat.le_of_ble_eq_true rfl), (Nat.le_of_ble_eq_true rfl)⟩ (Nat.le_of_ble_eq_true rfl) (sb_rf _) rfl dX8_anagramCount_1 (fun v X1 hp => ?_) (fun E7 X1 hp => ?_)
  · obtain ⟨rfl, rfl, h⟩ := hp
    show ww x (W_X8_anagramCount (xg x) a0 a1 a2 a3 a4 a5 a6 a7 a8 a9 a10 a11 v0 v1 v2 v3 v4) [(0, .ref a0), (1, .long p1)] 1 6 4 []
    refine xw_aload_n hf (pc := 4) dX8_anagramCount_4 rfl 0 rfl ?_
    refine xw_get hf (pc := 5) dX8_anagramCount_5 (T := TX8) mi_X8_anagramCount_X8 rfl 0 rfl 0 (by decide) rfl mw_X8_anagramCount_0 rfl ?_
    refine xw_lload_n hf (pc := 8) dX8_anagramCount_8 rfl 1 rfl ?_
    refine xw_callV hf (pc := 9) (nA := 1) (Xr := [(a0, .inr (8, [.ref a1, .ref a8, .ref a9, .ref a10, .ref a11]))]) (rest := []) (T := TX1) (c_X1_anagrams (xl x) (xg x) a1 a2 a3 a4 a5 a6 a7 v0 v1 v2 v3 v4 p1 h) gX8_anagramCount_X1_anagrams (by rfl) rfl rfl (by decide +kernel) ⟨⟨(Nat.le_of_ble_eq_true rfl), (Nat.le_of_ble_eq_true rfl)⟩, (Nat.le_of_ble_eq_true rfl), (Nat.le_of_ble_eq_true rfl)⟩ (Nat.le_of_ble_eq_true rfl) rfl rfl (sb_of [1, 2, 3, 4, 5, 6, 7, 0] rfl rfl) rfl dX8_anagramCount_9 (fun v X1 hp => ?_)
    obtain ⟨w3, w4, w5, rfl, rfl, h⟩ := hp
    refine xw_X (sb_of [7, 0, 1, 2, 3, 4, 5, 6] rfl rfl) (show ww x (W_X8_anagramCount (xg x) a0 a1 a2 a3 a4 a5 a6 a7 a8 a9 a10 a11 v0 v1 w3 w4 w5) [(0, .ref a0), (1, .long p1)] 1 6 12 [.ref a4] from ?_)
    refine xw_callV hf (pc := 12) (nA := 0) (Xr := [(a0, .inr (8, [.ref a1, .ref a8, .ref a9, .ref a10, .ref a11])), (a1, .inr (2, [.ref a2, .ref a4, .ref a6])), (a2, .inr (7, [.ref a3, .int v0])), (a3, .inl (gJ (xg x), 60, .inr (.inl v1))), (a5, .inl (gJ (xg x), 60, .inr (.inl w4))), (a6, .inr (3, [.ref a7])), (a7, .inl (gI (xg x), 32, .inl w5))]) (rest := []) (T := TX6) (c_X6_size (xl x) (xg x) a4 a5 w3 h) gX8_anagramCount_X6_size (by rfl) rfl rfl (by decide +kernel) ⟨⟨(Nat.le_of_ble_eq_true rfl), (Nat.le_of_ble_eq_true rfl)⟩, (Nat.le_of_ble_eq_true rfl), (Nat.le_of_ble_eq_true rfl)⟩ (Nat.le_of_ble_eq_true rfl) rfl rfl (sb_of [4, 0, 1, 2, 3, 5, 6, 7] rfl rfl) rfl dX8_anagramCount_12 (fun v X1 hp => ?_)
    obtain ⟨r6, rfl, rfl, h⟩ := hp
    refine xw_X (sb_of [1, 2, 3, 4, 0, 5, 6, 7] rfl rfl) (show ww x (W_X8_anagramCount (xg x) a0 a1 a2 a3 a4 a5 a6 a7 a8 a9 a10 a11 v0 v1 w3 w4 w5) [(0, .ref a0), (1, .long p1)] 1 6 15 [.int r6] from ?_)
    exact xw_iret hf (pc := 15) dX8_anagramCount_15 hr (Nat.le_of_ble_eq_true rfl) (Nat.le_of_ble_eq_true rfl) ⟨_, _, _, _, rfl, rfl, h⟩
  · obtain ⟨rfl, h⟩ := hp
    show wx x (W_X8_anagramCount (xg x) a0 a1 a2 a3 a4 a5 a6 a7 a8 a9 a10 a11 v0 v1 v2 v3 v4) [(0, .ref a0), (1, .long p1)] 1 6 1 E7 []
    exact xw_out hx (Nat.le_of_ble_eq_true rfl) (Nat.le_of_ble_eq_true rfl) ⟨_, _, _, rfl, h⟩
abbrev W_X8_anagramAt (g : Gx) (a0 a1 a2 a3 a4 a5 a6 a7 a8 a9 a10 a11 : Nat) (v0 : Int32) (v1 : Nat → Int64) (v2 : Int32) (v3 : Nat → Int64) (v4 : Nat → Int32) : va_W := [(a0, .inr (8, [.ref a1, .ref a8, .ref a9, .ref a10, .ref a11])), (a1, .inr (2, [.ref a2, .ref a4, .ref a6])), (a2, .inr (7, [.ref a3, .int v0])), (a3, .inl (gJ g, 60, .inr (.inl v1))), (a4, .inr (7, [.ref a5, .int v2])), (a5, .inl (gJ g, 60, .inr (.inl v3))), (a6, .inr (3, [.ref a7])), (a7, .inl (gI g, 32, .inl v4))]
abbrev rm_X8_anagramAt : Room := { frames := 8, cells := 2, slots := 12, locals := 121 }
theorem mw_X8_anagramAt_0 : (Cond.fieldLink RX8 10 "AnagramButcher" "dictionary" "LAnagramButcher$Dictionary;" : Cond) ∈ wsX8_anagramAt := (List.mem_cons_of_mem _ (List.mem_append_left _ (List.mem_append_left _ (List.mem_append_left _ (List.mem_append_left _ (List.mem_append_left _ (List.mem_append_left _ (List.mem_append_left _ (List.mem_of_getElem? (l := wsX8_anagramAt_r1) (i := 0) rfl)))))))))
theorem mi_X8_anagramAt_X8 : ∀ w ∈ wsX80, w ∈ wsX8_anagramAt := fun _ h => (List.mem_cons_of_mem _ (List.mem_append_left _ (List.mem_append_left _ (List.mem_append_left _ (List.mem_append_left _ (List.mem_append_left _ (List.mem_append_right _ h)))))))
set_option maxHeartbeats 4000000 in
set_option maxRecDepth 100000 in
theorem c_X8_anagramAt (l : Launch) (g : Gx) (hst : l.stackTraces = false) (a0 a1 a2 a3 a4 a5 a6 a7 a8 a9 a10 a11 : Nat) (v0 : Int32) (v1 : Nat → Int64) (v2 : Int32) (v3 : Nat → Int64) (v4 : Nat → Int32) (p1 : Int64) (p3 : Int32) {post : Int64 → Int32 → (Nat → Int64) → (Nat → Int32) → Prop} {postX : String → Int32 → (Nat → Int64) → (Nat → Int32) → Prop} (h : P_X8_anagramAt post postX p1 p3 v0 v1 v2 v3 v4) : ce l g yX8_anagramAt wsX8_anagramAt (rm_X8_anagramAt) [.ref a0, .long p1, .int p3] (W_X8_anagramAt g a0 a1 a2 a3 a4 a5 a6 a7 a8 a9 a10 a11 v0 v1 v2 v3 v4) (fun v X1 => ∃ (r : Int64) (uv2 : Int32) (uv3 : Nat → Int64) (uv4 : Nat → Int32), v = some (.long r) ∧ X1 = W_X8_anagramAt g a0 a1 a2 a3 a4 a5 a6 a7 a8 a9 a10 a11 v0 v1 uv2 uv3 uv4 ∧ post r uv2 uv3 uv4) (fun E X1 => ∃ (uv2 : Int32) (uv3 : Nat → Int64) (uv4 : Nat → Int32), X1 = W_X8_anagramAt g a0 a1 a2 a3 a4 a5 a6 a7 a8 a9 a10 a11 v0 v1 uv2 uv3 uv4 ∧ postX E uv2 uv3 uv4) := by
  refine ce_of (cc := cX8_anagramAt) (nL := 4) (ret := (some .long)) (by decide +kernel) rfl (Nat.le_of_ble_eq_true rfl) ?_
  intro x hf hl hg hn hi hr hx
  subst hl
  subst hg
  show ww x (W_X8_anagramAt (xg x) a0 a1 a2 a3 a4 a5 a6 a7 a8 a9 a10 a11 v0 v1 v2 v3 v4) [(0, .ref a0), (1, .long p1), (3, .int p3)] 0 0 0 []
  unfold P_X8_anagramAt at h
  refine xw_lload_n hf (pc := 0) dX8_anagramAt_0 rfl 1 rfl ?_
  refine xw_callSX hf (pc := 1) (nA := 1) (Xr := W_X8_anagramAt (xg x) a0 a1 a2 a3 a4 a5 a6 a7 a8 a9 a10 a11 v0 v1 v2 v3 v4) (rest := []) (c_X8_requireWord (xl x) (xg x) hst p1 h) gX8_anagramAt_X8_requireWord (by rfl) rfl (by decide +kernel) ⟨⟨(Nat.le_of_ble_eq_true rfl), (Nat.le_of_ble_eq_true rfl)⟩, (Nat.le_of_ble_eq_true rfl), (Nat.le_of_ble_eq_true rfl)⟩ (Nat.le_of_ble_eq_true rfl) (sb_rf _) rfl dX8_anagramAt_1 (fun v X1 hp => ?_) (fun E8 X1 hp => ?_)
  · obtain ⟨rfl, rfl, h⟩ := hp
    show ww x (W_X8_anagramAt (xg x) a0 a1 a2 a3 a4 a5 a6 a7 a8 a9 a10 a11 v0 v1 v2 v3 v4) [(0, .ref a0), (1, .long p1), (3, .int p3)] 1 6 4 []
    refine xw_aload_n hf (pc := 4) dX8_anagramAt_4 rfl 0 rfl ?_
    refine xw_get hf (pc := 5) dX8_anagramAt_5 (T := TX8) mi_X8_anagramAt_X8 rfl 0 rfl 0 (by decide) rfl mw_X8_anagramAt_0 rfl ?_
    refine xw_lload_n hf (pc := 8) dX8_anagramAt_8 rfl 1 rfl ?_
    refine xw_callV hf (pc := 9) (nA := 1) (Xr := [(a0, .inr (8, [.ref a1, .ref a8, .ref a9, .ref a10, .ref a11]))]) (rest := []) (T := TX1) (c_X1_anagrams (xl x) (xg x) a1 a2 a3 a4 a5 a6 a7 v0 v1 v2 v3 v4 p1 h) gX8_anagramAt_X1_anagrams (by rfl) rfl rfl (by decide +kernel) ⟨⟨(Nat.le_of_ble_eq_true rfl), (Nat.le_of_ble_eq_true rfl)⟩, (Nat.le_of_ble_eq_true rfl), (Nat.le_of_ble_eq_true rfl)⟩ (Nat.le_of_ble_eq_true rfl) rfl rfl (sb_of [1, 2, 3, 4, 5, 6, 7, 0] rfl rfl) rfl dX8_anagramAt_9 (fun v X1 hp => ?_)
    obtain ⟨w3, w4, w5, rfl, rfl, h⟩ := hp
    refine xw_X (sb_of [7, 0, 1, 2, 3, 4, 5, 6] rfl rfl) (show ww x (W_X8_anagramAt (xg x) a0 a1 a2 a3 a4 a5 a6 a7 a8 a9 a10 a11 v0 v1 w3 w4 w5) [(0, .ref a0), (1, .long p1), (3, .int p3)] 1 6 12 [.ref a4] from ?_)
    refine xw_iload_n hf (pc := 12) dX8_anagramAt_12 rfl 2 rfl ?_
    refine xw_callSX hf (pc := 13) (nA := 2) (Xr := [(a0, .inr (8, [.ref a1, .ref a8, .ref a9, .ref a10, .ref a11])), (a1, .inr (2, [.ref a2, .ref a4, .ref a6])), (a2, .inr (7, [.ref a3, .int v0])), (a3, .inl (gJ (xg x), 60, .inr (.inl v1))), (a6, .inr (3, [.ref a7])), (a7, .inl (gI (xg x), 32, .inl w5))]) (rest := []) (c_X8_requireWordOf (xl x) (xg x) hst a4 a5 w3 w4 p3 h) gX8_anagramAt_X8_requireWordOf (by rfl) rfl (by decide +kernel) ⟨⟨(Nat.le_of_ble_eq_true rfl), (Nat.le_of_ble_eq_true rfl)⟩, (Nat.le_of_ble_eq_true rfl), (Nat.le_of_ble_eq_true rfl)⟩ (Nat.le_of_ble_eq_true rfl) (sb_of [4, 5, 0, 1, 2, 3, 6, 7] rfl rfl) rfl dX8_anagramAt_13 (fun v X1 hp => ?_) (fun E7 X1 hp => ?_)
    · obtain ⟨r6, rfl, rfl, h⟩ := hp
      refine xw_X (sb_of [2, 3, 4, 5, 0, 1, 6, 7] rfl rfl) (show ww x (W_X8_anagramAt (xg x) a0 a1 a2 a3 a4 a5 a6 a7 a8 a9 a10 a11 v0 v1 w3 w4 w5) [(0, .ref a0), (1, .long p1), (3, .int p3)] 2 12 16 [.long r6] from ?_)
      exact xw_lret hf (pc := 16) dX8_anagramAt_16 hr (Nat.le_of_ble_eq_true rfl) (Nat.le_of_ble_eq_true rfl) ⟨_, _, _, _, rfl, rfl, h⟩
    · obtain ⟨rfl, h⟩ := hp
      refine xe_X (sb_of [2, 3, 4, 5, 0, 1, 6, 7] rfl rfl) (show wx x (W_X8_anagramAt (xg x) a0 a1 a2 a3 a4 a5 a6 a7 a8 a9 a10 a11 v0 v1 w3 w4 w5) [(0, .ref a0), (1, .long p1), (3, .int p3)] 2 12 13 E7 [] from ?_)
      exact xw_out hx (Nat.le_of_ble_eq_true rfl) (Nat.le_of_ble_eq_true rfl) ⟨_, _, _, rfl, h⟩
  · obtain ⟨rfl, h⟩ := hp
    show wx x (W_X8_anagramAt (xg x) a0 a1 a2 a3 a4 a5 a6 a7 a8 a9 a10 a11 v0 v1 v2 v3 v4) [(0, .ref a0), (1, .long p1), (3, .int p3)] 1 6 1 E8 []
    exact xw_out hx (Nat.le_of_ble_eq_true rfl) (Nat.le_of_ble_eq_true rfl) ⟨_, _, _, rfl, h⟩
abbrev W_X8_largestAnagramGroup (g : Gx) (a0 a1 a2 a3 a4 a5 a6 a7 a8 a9 a10 a11 : Nat) (v0 : Int32) (v1 : Nat → Int64) (v2 : Int32) (v3 : Nat → Int64) (v4 : Nat → Int32) : va_W := [(a0, .inr (8, [.ref a1, .ref a8, .ref a9, .ref a10, .ref a11])), (a1, .inr (2, [.ref a2, .ref a4, .ref a6])), (a2, .inr (7, [.ref a3, .int v0])), (a3, .inl (gJ g, 60, .inr (.inl v1))), (a4, .inr (7, [.ref a5, .int v2])), (a5, .inl (gJ g, 60, .inr (.inl v3))), (a6, .inr (3, [.ref a7])), (a7, .inl (gI g, 32, .inl v4))]
abbrev rm_X8_largestAnagramGroup : Room := { frames := 5, cells := 0, slots := 0, locals := 118 }
theorem mw_X8_largestAnagramGroup_0 : (Cond.fieldLink RX8 10 "AnagramButcher" "dictionary" "LAnagramButcher$Dictionary;" : Cond) ∈ wsX8_largestAnagramGroup := (List.mem_cons_of_mem _ (List.mem_append_left _ (List.mem_append_left _ (List.mem_append_left _ (List.mem_append_left _ (List.mem_append_left _ (List.mem_of_getElem? (l := wsX8_largestAnagramGroup_r1) (i := 0) rfl)))))))
theorem mw_X8_largestAnagramGroup_1 : (Cond.methodLink RX8 98 Lib.Math.max.name : Cond) ∈ wsX8_largestAnagramGroup := (List.mem_cons_of_mem _ (List.mem_append_left _ (List.mem_append_left _ (List.mem_append_left _ (List.mem_append_left _ (List.mem_append_left _ (List.mem_of_getElem? (l := wsX8_largestAnagramGroup_r1) (i := 1) rfl)))))))
theorem mw_X8_largestAnagramGroup_2 : (Cond.static Lib.Math.max.name : Cond) ∈ wsX8_largestAnagramGroup := (List.mem_cons_of_mem _ (List.mem_append_left _ (List.mem_append_left _ (List.mem_append_left _ (List.mem_append_left _ (List.mem_append_left _ (List.mem_of_getElem? (l := wsX8_largestAnagramGroup_r1) (i := 2) rfl)))))))
theorem mw_X8_largestAnagramGroup_3 : (Cond.initialized "java/lang/Math" : Cond) ∈ wsX8_largestAnagramGroup := (List.mem_cons_of_mem _ (List.mem_append_left _ (List.mem_append_left _ (List.mem_append_left _ (List.mem_append_left _ (List.mem_append_left _ (List.mem_of_getElem? (l := wsX8_largestAnagramGroup_r1) (i := 3) rfl)))))))
theorem mw_X8_largestAnagramGroup_4 : (Cond.code Lib.Math.max.name Lib.Math.max.code 2 (some .int) : Cond) ∈ wsX8_largestAnagramGroup := (List.mem_cons_of_mem _ (List.mem_append_left _ (List.mem_append_left _ (List.mem_append_left _ (List.mem_append_left _ (List.mem_append_left _ (List.mem_of_getElem? (l := wsX8_largestAnagramGroup_r1) (i := 4) rfl)))))))
theorem mi_X8_largestAnagramGroup_X8 : ∀ w ∈ wsX80, w ∈ wsX8_largestAnagramGroup := fun _ h => (List.mem_cons_of_mem _ (List.mem_append_left _ (List.mem_append_left _ (List.mem_append_left _ (List.mem_append_right _ h)))))
set_option maxHeartbeats 4000000 in
set_option maxRecDepth 100000 in
theorem w_X8_largestAnagramGroup_L4 {x : Cx} (hf : fx x (rm_X8_largestAnagramGroup) RX8 cX8_largestAnagramGroup wsX8_largestAnagramGroup) (hn : xn x = 3) {k0 n0 : Nat} (hk : k0 ≤ (rm_X8_largestAnagramGroup).cells ∧ n0 ≤ (rm_X8_largestAnagramGroup).slots) (a0 a1 a2 a3 a4 a5 a6 a7 a8 a9 a10 a11 : Nat) (v0 : Int32) (v1 : Nat → Int64) {K50 : Int32 → Int32 → (Nat → Int64) → (Nat → Int32) → Prop}
    (n : Nat) (z1 : Int32) (z2 : Int32) (v2 : Int32) (v3 : Nat → Int64) (v4 : Nat → Int32) (h : P_X8_largestAnagramGroup_L4 v0 v1 K50 n z1 z2 v2 v3 v4)
    (hK50 : ∀ (y1 : Int32), ∀ (uv2 : Int32), ∀ (uv3 : Nat → Int64), ∀ (uv4 : Nat → Int32), K50 y1 uv2 uv3 uv4 → ww x (W_X8_largestAnagramGroup (xg x) a0 a1 a2 a3 a4 a5 a6 a7 a8 a9 a10 a11 v0 v1 uv2 uv3 uv4) [(1, .int y1)] k0 n0 50 []) :
    ww x (W_X8_largestAnagramGroup (xg x) a0 a1 a2 a3 a4 a5 a6 a7 a8 a9 a10 a11 v0 v1 v2 v3 v4) [(0, .ref a0), (1, .int z1), (2, .int z2)] k0 n0 4 [] := by
  induction n generalizing z1 z2 v2 v3 v4 with
  | zero => exact h.elim
  | succ n ih =>
    unfold P_X8_largestAnagramGroup_L4 at h
    refine xw_iload_n hf (pc := 4) dX8_largestAnagramGroup_4 rfl 2 rfl ?_
    refine xw_aload_n hf (pc := 5) dX8_largestAnagramGroup_5 rfl 0 rfl ?_
    refine xw_get hf (pc := 6) dX8_largestAnagramGroup_6 (T := TX8) mi_X8_largestAnagramGroup_X8 rfl 0 rfl 0 (by decide) rfl mw_X8_largestAnagramGroup_0 rfl ?_
    refine xw_callV hf (pc := 9) (nA := 0) (Xr := [(a0, .inr (8, [.ref a1, .ref a8, .ref a9, .ref a10, .ref a11])), (a2, .inr (7, [.ref a3, .int v0])), (a3, .inl (gJ (xg x), 60, .inr (.inl v1))), (a4, .inr (7, [.ref a5, .int v2])), (a5, .inl (gJ (xg x), 60, .inr (.inl v3))), (a6, .inr (3, [.ref a7])), (a7, .inl (gI (xg x), 32, .inl v4))]) (rest := [.int z2]) (T := TX1) (c_X1_words (xl x) (xg x) a1 a2 a4 a6 h) gX8_largestAnagramGroup_X1_words (by rfl) rfl rfl (by decide +kernel) ⟨⟨(Nat.le_of_ble_eq_true rfl), (Nat.le_of_ble_eq_true rfl)⟩, hk.1, hk.2⟩ (Nat.le_of_ble_eq_true rfl) rfl rfl (sb_of [1, 0, 2, 3, 4, 5, 6, 7] rfl rfl) rfl dX8_largestAnagramGroup_9 (fun v X1 hp => ?_)
    obtain ⟨rfl, rfl, h⟩ := hp
    refine xw_X (sb_of [1, 0, 2, 3, 4, 5, 6, 7] rfl rfl) (show ww x (W_X8_largestAnagramGroup (xg x) a0 a1 a2 a3 a4 a5 a6 a7 a8 a9 a10 a11 v0 v1 v2 v3 v4) [(0, .ref a0), (1, .int z1), (2, .int z2)] k0 n0 12 [.ref a2, .int z2] from ?_)
    refine xw_callV hf (pc := 12) (nA := 0) (Xr := [(a0, .inr (8, [.ref a1, .ref a8, .ref a9, .ref a10, .ref a11])), (a1, .inr (2, [.ref a2, .ref a4, .ref a6])), (a3, .inl (gJ (xg x), 60, .inr (.inl v1))), (a4, .inr (7, [.ref a5, .int v2])), (a5, .inl (gJ (xg x), 60, .inr (.inl v3))), (a6, .inr (3, [.ref a7])), (a7, .inl (gI (xg x), 32, .inl v4))]) (rest := [.int z2]) (T := TX6) (c_X6_size (xl x) (xg x) a2 a3 v0 h) gX8_largestAnagramGroup_X6_size (by rfl) rfl rfl (by decide +kernel) ⟨⟨(Nat.le_of_ble_eq_true rfl), (Nat.le_of_ble_eq_true rfl)⟩, hk.1, hk.2⟩ (Nat.le_of_ble_eq_true rfl) rfl rfl (sb_of [2, 0, 1, 3, 4, 5, 6, 7] rfl rfl) rfl dX8_largestAnagramGroup_12 (fun v X1 hp => ?_)
    obtain ⟨r2, rfl, rfl, h⟩ := hp
    refine xw_X (sb_of [1, 2, 0, 3, 4, 5, 6, 7] rfl rfl) (show ww x (W_X8_largestAnagramGroup (xg x) a0 a1 a2 a3 a4 a5 a6 a7 a8 a9 a10 a11 v0 v1 v2 v3 v4) [(0, .ref a0), (1, .int z1), (2, .int z2)] k0 n0 15 [.int r2, .int z2] from ?_)
    refine xw_icmp_ge hf (pc := 15) dX8_largestAnagramGroup_15 (tgt := 50) rfl ⟨fun c => ?_, fun c => ?_⟩
    · have h := h.1 c
      refine xw_L [1] rfl ?_
      exact hK50 _ _ _ _ h
    · have h := h.2 c
      refine xw_iload_n hf (pc := 18) dX8_largestAnagramGroup_18 rfl 1 rfl ?_
      refine xw_aload_n hf (pc := 19) dX8_largestAnagramGroup_19 rfl 0 rfl ?_
      refine xw_get hf (pc := 20) dX8_largestAnagramGroup_20 (T := TX8) mi_X8_largestAnagramGroup_X8 rfl 0 rfl 0 (by decide) rfl mw_X8_largestAnagramGroup_0 rfl ?_
      refine xw_aload_n hf (pc := 23) dX8_largestAnagramGroup_23 rfl 0 rfl ?_
      refine xw_get hf (pc := 24) dX8_largestAnagramGroup_24 (T := TX8) mi_X8_largestAnagramGroup_X8 rfl 0 rfl 0 (by decide) rfl mw_X8_largestAnagramGroup_0 rfl ?_
      refine xw_callV hf (pc := 27) (nA := 0) (Xr := [(a0, .inr (8, [.ref a1, .ref a8, .ref a9, .ref a10, .ref a11])), (a2, .inr (7, [.ref a3, .int v0])), (a3, .inl (gJ (xg x), 60, .inr (.inl v1))), (a4, .inr (7, [.ref a5, .int v2])), (a5, .inl (gJ (xg x), 60, .inr (.inl v3))), (a6, .inr (3, [.ref a7])), (a7, .inl (gI (xg x), 32, .inl v4))]) (rest := [.ref a1, .int z1]) (T := TX1) (c_X1_words (xl x) (xg x) a1 a2 a4 a6 h) gX8_largestAnagramGroup_X1_words (by rfl) rfl rfl (by decide +kernel) ⟨⟨(Nat.le_of_ble_eq_true rfl), (Nat.le_of_ble_eq_true rfl)⟩, hk.1, hk.2⟩ (Nat.le_of_ble_eq_true rfl) rfl rfl (sb_of [1, 0, 2, 3, 4, 5, 6, 7] rfl rfl) rfl dX8_largestAnagramGroup_27 (fun v X1 hp => ?_)
      obtain ⟨rfl, rfl, h⟩ := hp
      refine xw_X (sb_of [1, 0, 2, 3, 4, 5, 6, 7] rfl rfl) (show ww x (W_X8_largestAnagramGroup (xg x) a0 a1 a2 a3 a4 a5 a6 a7 a8 a9 a10 a11 v0 v1 v2 v3 v4) [(0, .ref a0), (1, .int z1), (2, .int z2)] k0 n0 30 [.ref a2, .ref a1, .int z1] from ?_)
      refine xw_iload_n hf (pc := 30) dX8_largestAnagramGroup_30 rfl 2 rfl ?_
      refine xw_callV hf (pc := 31) (nA := 1) (Xr := [(a0, .inr (8, [.ref a1, .ref a8, .ref a9, .ref a10, .ref a11])), (a1, .inr (2, [.ref a2, .ref a4, .ref a6])), (a4, .inr (7, [.ref a5, .int v2])), (a5, .inl (gJ (xg x), 60, .inr (.inl v3))), (a6, .inr (3, [.ref a7])), (a7, .inl (gI (xg x), 32, .inl v4))]) (rest := [.ref a1, .int z1]) (T := TX6) (c_X6_word (xl x) (xg x) a2 a3 v0 v1 z2 h) gX8_largestAnagramGroup_X6_word (by rfl) rfl rfl (by decide +kernel) ⟨⟨(Nat.le_of_ble_eq_true rfl), (Nat.le_of_ble_eq_true rfl)⟩, hk.1, hk.2⟩ (Nat.le_of_ble_eq_true rfl) rfl rfl (sb_of [2, 3, 0, 1, 4, 5, 6, 7] rfl rfl) rfl dX8_largestAnagramGroup_31 (fun v X1 hp => ?_)
      obtain ⟨r4, rfl, rfl, h⟩ := hp
      refine xw_X (sb_of [2, 3, 0, 1, 4, 5, 6, 7] rfl rfl) (show ww x (W_X8_largestAnagramGroup (xg x) a0 a1 a2 a3 a4 a5 a6 a7 a8 a9 a10 a11 v0 v1 v2 v3 v4) [(0, .ref a0), (1, .int z1), (2, .int z2)] k0 n0 34 [.long r4, .ref a1, .int z1] from ?_)
      refine xw_callV hf (pc := 34) (nA := 1) (Xr := [(a0, .inr (8, [.ref a1, .ref a8, .ref a9, .ref a10, .ref a11]))]) (rest := [.int z1]) (T := TX1) (c_X1_anagrams (xl x) (xg x) a1 a2 a3 a4 a5 a6 a7 v0 v1 v2 v3 v4 r4 h) gX8_largestAnagramGroup_X1_anagrams (by rfl) rfl rfl (by decide +kernel) ⟨⟨(Nat.le_of_ble_eq_true rfl), (Nat.le_of_ble_eq_true rfl)⟩, hk.1, hk.2⟩ (Nat.le_of_ble_eq_true rfl) rfl rfl (sb_of [1, 2, 3, 4, 5, 6, 7, 0] rfl rfl) rfl dX8_largestAnagramGroup_34 (fun v X1 hp => ?_)
      obtain ⟨w6, w7, w8, rfl, rfl, h⟩ := hp
      refine xw_X (sb_of [7, 0, 1, 2, 3, 4, 5, 6] rfl rfl) (show ww x (W_X8_largestAnagramGroup (xg x) a0 a1 a2 a3 a4 a5 a6 a7 a8 a9 a10 a11 v0 v1 w6 w7 w8) [(0, .ref a0), (1, .int z1), (2, .int z2)] k0 n0 37 [.ref a4, .int z1] from ?_)
      refine xw_callV hf (pc := 37) (nA := 0) (Xr := [(a0, .inr (8, [.ref a1, .ref a8, .ref a9, .ref a10, .ref a11])), (a1, .inr (2, [.ref a2, .ref a4, .ref a6])), (a2, .inr (7, [.ref a3, .int v0])), (a3, .inl (gJ (xg x), 60, .inr (.inl v1))), (a5, .inl (gJ (xg x), 60, .inr (.inl w7))), (a6, .inr (3, [.ref a7])), (a7, .inl (gI (xg x), 32, .inl w8))]) (rest := [.int z1]) (T := TX6) (c_X6_size (xl x) (xg x) a4 a5 w6 h) gX8_largestAnagramGroup_X6_size (by rfl) rfl rfl (by decide +kernel) ⟨⟨(Nat.le_of_ble_eq_true rfl), (Nat.le_of_ble_eq_true rfl)⟩, hk.1, hk.2⟩ (Nat.le_of_ble_eq_true rfl) rfl rfl (sb_of [4, 0, 1, 2, 3, 5, 6, 7] rfl rfl) rfl dX8_largestAnagramGroup_37 (fun v X1 hp => ?_)
      obtain ⟨r9, rfl, rfl, h⟩ := hp
      refine xw_X (sb_of [1, 2, 3, 4, 0, 5, 6, 7] rfl rfl) (show ww x (W_X8_largestAnagramGroup (xg x) a0 a1 a2 a3 a4 a5 a6 a7 a8 a9 a10 a11 v0 v1 w6 w7 w8) [(0, .ref a0), (1, .int z1), (2, .int z2)] k0 n0 40 [.int r9, .int z1] from ?_)
      refine xw_max hf mw_X8_largestAnagramGroup_1 mw_X8_largestAnagramGroup_2 mw_X8_largestAnagramGroup_3 mw_X8_largestAnagramGroup_4 ⟨⟨(Nat.le_of_ble_eq_true rfl), (Nat.le_of_ble_eq_true rfl)⟩, hk.1, hk.2⟩ (Nat.le_of_ble_eq_true rfl) dX8_largestAnagramGroup_40 ?_
      refine xw_topi (fun y10 ey10 => ?_)
      have h := h y10 ey10
      refine xw_istore_n hf (pc := 43) dX8_largestAnagramGroup_43 rfl [(1, .int y10), (0, .ref a0), (2, .int z2)] hn (by decide) rfl ?_
      refine xw_iinc hf (pc := 44) dX8_largestAnagramGroup_44 (v := z2 + 1) 2 rfl rfl [(2, .int (z2 + 1)), (1, .int y10), (0, .ref a0)] hn (by decide) rfl ?_
      refine xw_goto hf (pc := 47) dX8_largestAnagramGroup_47 (tgt := 4) rfl ?_
      refine xw_L [2, 1, 0] rfl ?_
      exact ih _ _ _ _ _ h
set_option maxHeartbeats 4000000 in
set_option maxRecDepth 100000 in
theorem c_X8_largestAnagramGroup (l : Launch) (g : Gx) (a0 a1 a2 a3 a4 a5 a6 a7 a8 a9 a10 a11 : Nat) (v0 : Int32) (v1 : Nat → Int64) (v2 : Int32) (v3 : Nat → Int64) (v4 : Nat → Int32) {post : Int32 → Int32 → (Nat → Int64) → (Nat → Int32) → Prop} (h : P_X8_largestAnagramGroup post v0 v1 v2 v3 v4) : cm l g yX8_largestAnagramGroup wsX8_largestAnagramGroup (rm_X8_largestAnagramGroup) [.ref a0] (W_X8_largestAnagramGroup g a0 a1 a2 a3 a4 a5 a6 a7 a8 a9 a10 a11 v0 v1 v2 v3 v4) (fun v X1 => ∃ (r : Int32) (uv2 : Int32) (uv3 : Nat → Int64) (uv4 : Nat → Int32), v = some (.int r) ∧ X1 = W_X8_largestAnagramGroup g a0 a1 a2 a3 a4 a5 a6 a7 a8 a9 a10 a11 v0 v1 uv2 uv3 uv4 ∧ post r uv2 uv3 uv4) := by
  refine cm_of (cc := cX8_largestAnagramGroup) (nL := 3) (ret := (some .int)) (by decide +kernel) rfl (Nat.le_of_ble_eq_true rfl) ?_
  intro x hf hl hg hn hi hr
  subst hl
  subst hg
  show ww x (W_X8_largestAnagramGroup (xg x) a0 a1 a2 a3 a4 a5 a6 a7 a8 a9 a10 a11 v0 v1 v2 v3 v4) [(0, .ref a0)] 0 0 0 []
  unfold P_X8_largestAnagramGroup at h
  refine xw_iconst hf (pc := 0) dX8_largestAnagramGroup_0 (v := 0) (by decide) ?_
  refine xw_istore_n hf (pc := 1) dX8_largestAnagramGroup_1 rfl [(1, .int 0), (0, .ref a0)] hn (by decide) rfl ?_
  refine xw_iconst hf (pc := 2) dX8_largestAnagramGroup_2 (v := 0) (by decide) ?_
  refine xw_istore_n hf (pc := 3) dX8_largestAnagramGroup_3 rfl [(2, .int 0), (1, .int 0), (0, .ref a0)] hn (by decide) rfl ?_
  refine xw_L [2, 1, 0] rfl ?_
  refine w_X8_largestAnagramGroup_L4 hf hn ⟨(Nat.le_of_ble_eq_true rfl), (Nat.le_of_ble_eq_true rfl)⟩ a0 a1 a2 a3 a4 a5 a6 a7 a8 a9 a10 a11 v0 v1 FU _ _ _ _ _ h (fun x11 w12 w13 w14 h => ?_)
  refine xw_iload_n hf (pc := 50) dX8_largestAnagramGroup_50 rfl 0 rfl ?_
  exact xw_iret hf (pc := 51) dX8_largestAnagramGroup_51 hr (Nat.le_of_ble_eq_true rfl) (Nat.le_of_ble_eq_true rfl) ⟨_, _, _, _, rfl, rfl, h⟩
abbrev W_X8_fittingCount (g : Gx) (a0 a1 a2 a3 a4 a5 a6 a7 a8 a9 a10 a11 : Nat) (v0 : Int32) (v1 : Nat → Int64) (v2 : Int32) (v3 : Nat → Int64) (v4 : Nat → Int32) : va_W := [(a0, .inr (8, [.ref a1, .ref a8, .ref a9, .ref a10, .ref a11])), (a1, .inr (2, [.ref a2, .ref a4, .ref a6])), (a2, .inr (7, [.ref a3, .int v0])), (a3, .inl (gJ g, 60, .inr (.inl v1))), (a4, .inr (7, [.ref a5, .int v2])), (a5, .inl (gJ g, 60, .inr (.inl v3))), (a6, .inr (3, [.ref a7])), (a7, .inl (gI g, 32, .inl v4))]
abbrev rm_X8_fittingCount : Room := { frames := 8, cells := 1, slots := 6, locals := 121 }
theorem mw_X8_fittingCount_0 : (Cond.fieldLink RX8 10 "AnagramButcher" "dictionary" "LAnagramButcher$Dictionary;" : Cond) ∈ wsX8_fittingCount := (List.mem_cons_of_mem _ (List.mem_append_left _ (List.mem_append_left _ (List.mem_append_left _ (List.mem_append_left _ (List.mem_append_left _ (List.mem_append_left _ (List.mem_of_getElem? (l := wsX8_fittingCount_r1) (i := 0) rfl))))))))
theorem mi_X8_fittingCount_X8 : ∀ w ∈ wsX80, w ∈ wsX8_fittingCount := fun _ h => (List.mem_cons_of_mem _ (List.mem_append_left _ (List.mem_append_left _ (List.mem_append_left _ (List.mem_append_left _ (List.mem_append_right _ h))))))
set_option maxHeartbeats 4000000 in
set_option maxRecDepth 100000 in
theorem c_X8_fittingCount (l : Launch) (g : Gx) (hst : l.stackTraces = false) (a0 a1 a2 a3 a4 a5 a6 a7 a8 a9 a10 a11 : Nat) (v0 : Int32) (v1 : Nat → Int64) (v2 : Int32) (v3 : Nat → Int64) (v4 : Nat → Int32) (p1 : Int64) {post : Int32 → Int32 → (Nat → Int64) → (Nat → Int32) → Prop} {postX : String → Int32 → (Nat → Int64) → (Nat → Int32) → Prop} (h : P_X8_fittingCount post postX p1 v0 v1 v2 v3 v4) : ce l g yX8_fittingCount wsX8_fittingCount (rm_X8_fittingCount) [.ref a0, .long p1] (W_X8_fittingCount g a0 a1 a2 a3 a4 a5 a6 a7 a8 a9 a10 a11 v0 v1 v2 v3 v4) (fun v X1 => ∃ (r : Int32) (uv2 : Int32) (uv3 : Nat → Int64) (uv4 : Nat → Int32), v = some (.int r) ∧ X1 = W_X8_fittingCount g a0 a1 a2 a3 a4 a5 a6 a7 a8 a9 a10 a11 v0 v1 uv2 uv3 uv4 ∧ post r uv2 uv3 uv4) (fun E X1 => ∃ (uv2 : Int32) (uv3 : Nat → Int64) (uv4 : Nat → Int32), X1 = W_X8_fittingCount g a0 a1 a2 a3 a4 a5 a6 a7 a8 a9 a10 a11 v0 v1 uv2 uv3 uv4 ∧ postX E uv2 uv3 uv4) := by
  refine ce_of (cc := cX8_fittingCount) (nL := 3) (ret := (some .int)) (by decide +kernel) rfl (Nat.le_of_ble_eq_true rfl) ?_
  intro x hf hl hg hn hi hr hx
  subst hl
  subst hg
  show ww x (W_X8_fittingCount (xg x) a0 a1 a2 a3 a4 a5 a6 a7 a8 a9 a10 a11 v0 v1 v2 v3 v4) [(0, .ref a0), (1, .long p1)] 0 0 0 []
  unfold P_X8_fittingCount at h
  refine xw_lload_n hf (pc := 0) dX8_fittingCount_0 rfl 1 rfl ?_
  refine xw_callSX hf (pc := 1) (nA := 1) (Xr := W_X8_fittingCount (xg x) a0 a1 a2 a3 a4 a5 a6 a7 a8 a9 a10 a11 v0 v1 v2 v3 v4) (rest := []) (c_X8_requireWord (xl x) (xg x) hst p1 h) gX8_fittingCount_X8_requireWord (by rfl) rfl (by decide +kernel) ⟨⟨(Nat.le_of_ble_eq_true rfl), (Nat.le_of_ble_eq_true rfl)⟩, (Nat.le_of_ble_eq_true rfl), (Nat.le_of_ble_eq_true rfl)⟩ (Nat.le_of_ble_eq_true rfl) (sb_rf _) rfl dX8_fittingCount_1 (fun v X1 hp => ?_) (fun E7 X1 hp => ?_)
  · obtain ⟨rfl, rfl, h⟩ := hp
    show ww x (W_X8_fittingCount (xg x) a0 a1 a2 a3 a4 a5 a6 a7 a8 a9 a10 a11 v0 v1 v2 v3 v4) [(0, .ref a0), (1, .long p1)] 1 6 4 []
    refine xw_aload_n hf (pc := 4) dX8_fittingCount_4 rfl 0 rfl ?_
    refine xw_get hf (pc := 5) dX8_fittingCount_5 (T := TX8) mi_X8_fittingCount_X8 rfl 0 rfl 0 (by decide) rfl mw_X8_fittingCount_0 rfl ?_
    refine xw_lload_n hf (pc := 8) dX8_fittingCount_8 rfl 1 rfl ?_
    refine xw_callV hf (pc := 9) (nA := 1) (Xr := [(a0, .inr (8, [.ref a1, .ref a8, .ref a9, .ref a10, .ref a11]))]) (rest := []) (T := TX1) (c_X1_fitting (xl x) (xg x) a1 a2 a3 a4 a5 a6 a7 v0 v1 v2 v3 v4 p1 h) gX8_fittingCount_X1_fitting (by rfl) rfl rfl (by decide +kernel) ⟨⟨(Nat.le_of_ble_eq_true rfl), (Nat.le_of_ble_eq_true rfl)⟩, (Nat.le_of_ble_eq_true rfl), (Nat.le_of_ble_eq_true rfl)⟩ (Nat.le_of_ble_eq_true rfl) rfl rfl (sb_of [1, 2, 3, 4, 5, 6, 7, 0] rfl rfl) rfl dX8_fittingCount_9 (fun v X1 hp => ?_)
    obtain ⟨w3, w4, w5, rfl, rfl, h⟩ := hp
    refine xw_X (sb_of [7, 0, 1, 2, 3, 4, 5, 6] rfl rfl) (show ww x (W_X8_fittingCount (xg x) a0 a1 a2 a3 a4 a5 a6 a7 a8 a9 a10 a11 v0 v1 w3 w4 w5) [(0, .ref a0), (1, .long p1)] 1 6 12 [.ref a4] from ?_)
    refine xw_callV hf (pc := 12) (nA := 0) (Xr := [(a0, .inr (8, [.ref a1, .ref a8, .ref a9, .ref a10, .ref a11])), (a1, .inr (2, [.ref a2, .ref a4, .ref a6])), (a2, .inr (7, [.ref a3, .int v0])), (a3, .inl (gJ (xg x), 60, .inr (.inl v1))), (a5, .inl (gJ (xg x), 60, .inr (.inl w4))), (a6, .inr (3, [.ref a7])), (a7, .inl (gI (xg x), 32, .inl w5))]) (rest := []) (T := TX6) (c_X6_size (xl x) (xg x) a4 a5 w3 h) gX8_fittingCount_X6_size (by rfl) rfl rfl (by decide +kernel) ⟨⟨(Nat.le_of_ble_eq_true rfl), (Nat.le_of_ble_eq_true rfl)⟩, (Nat.le_of_ble_eq_true rfl), (Nat.le_of_ble_eq_true rfl)⟩ (Nat.le_of_ble_eq_true rfl) rfl rfl (sb_of [4, 0, 1, 2, 3, 5, 6, 7] rfl rfl) rfl dX8_fittingCount_12 (fun v X1 hp => ?_)
    obtain ⟨r6, rfl, rfl, h⟩ := hp
    refine xw_X (sb_of [1, 2, 3, 4, 0, 5, 6, 7] rfl rfl) (show ww x (W_X8_fittingCount (xg x) a0 a1 a2 a3 a4 a5 a6 a7 a8 a9 a10 a11 v0 v1 w3 w4 w5) [(0, .ref a0), (1, .long p1)] 1 6 15 [.int r6] from ?_)
    exact xw_iret hf (pc := 15) dX8_fittingCount_15 hr (Nat.le_of_ble_eq_true rfl) (Nat.le_of_ble_eq_true rfl) ⟨_, _, _, _, rfl, rfl, h⟩
  · obtain ⟨rfl, h⟩ := hp
    show wx x (W_X8_fittingCount (xg x) a0 a1 a2 a3 a4 a5 a6 a7 a8 a9 a10 a11 v0 v1 v2 v3 v4) [(0, .ref a0), (1, .long p1)] 1 6 1 E7 []
    exact xw_out hx (Nat.le_of_ble_eq_true rfl) (Nat.le_of_ble_eq_true rfl) ⟨_, _, _, rfl, h⟩
abbrev W_X8_fittingWord (g : Gx) (a0 a1 a2 a3 a4 a5 a6 a7 a8 a9 a10 a11 : Nat) (v0 : Int32) (v1 : Nat → Int64) (v2 : Int32) (v3 : Nat → Int64) (v4 : Nat → Int32) : va_W := [(a0, .inr (8, [.ref a1, .ref a8, .ref a9, .ref a10, .ref a11])), (a1, .inr (2, [.ref a2, .ref a4, .ref a6])), (a2, .inr (7, [.ref a3, .int v0])), (a3, .inl (gJ g, 60, .inr (.inl v1))), (a4, .inr (7, [.ref a5, .int v2])), (a5, .inl (gJ g, 60, .inr (.inl v3))), (a6, .inr (3, [.ref a7])), (a7, .inl (gI g, 32, .inl v4))]
abbrev rm_X8_fittingWord : Room := { frames := 8, cells := 2, slots := 12, locals := 121 }
theorem mw_X8_fittingWord_0 : (Cond.fieldLink RX8 10 "AnagramButcher" "dictionary" "LAnagramButcher$Dictionary;" : Cond) ∈ wsX8_fittingWord := (List.mem_cons_of_mem _ (List.mem_append_left _ (List.mem_append_left _ (List.mem_append_left _ (List.mem_append_left _ (List.mem_append_left _ (List.mem_append_left _ (List.mem_append_left _ (List.mem_of_getElem? (l := wsX8_fittingWord_r1) (i := 0) rfl)))))))))
theorem mi_X8_fittingWord_X8 : ∀ w ∈ wsX80, w ∈ wsX8_fittingWord := fun _ h => (List.mem_cons_of_mem _ (List.mem_append_left _ (List.mem_append_left _ (List.mem_append_left _ (List.mem_append_left _ (List.mem_append_left _ (List.mem_append_right _ h)))))))
set_option maxHeartbeats 4000000 in
set_option maxRecDepth 100000 in
theorem c_X8_fittingWord (l : Launch) (g : Gx) (hst : l.stackTraces = false) (a0 a1 a2 a3 a4 a5 a6 a7 a8 a9 a10 a11 : Nat) (v0 : Int32) (v1 : Nat → Int64) (v2 : Int32) (v3 : Nat → Int64) (v4 : Nat → Int32) (p1 : Int64) (p3 : Int32) {post : Int64 → Int32 → (Nat → Int64) → (Nat → Int32) → Prop} {postX : String → Int32 → (Nat → Int64) → (Nat → Int32) → Prop} (h : P_X8_fittingWord post postX p1 p3 v0 v1 v2 v3 v4) : ce l g yX8_fittingWord wsX8_fittingWord (rm_X8_fittingWord) [.ref a0, .long p1, .int p3] (W_X8_fittingWord g a0 a1 a2 a3 a4 a5 a6 a7 a8 a9 a10 a11 v0 v1 v2 v3 v4) (fun v X1 => ∃ (r : Int64) (uv2 : Int32) (uv3 : Nat → Int64) (uv4 : Nat → Int32), v = some (.long r) ∧ X1 = W_X8_fittingWord g a0 a1 a2 a3 a4 a5 a6 a7 a8 a9 a10 a11 v0 v1 uv2 uv3 uv4 ∧ post r uv2 uv3 uv4) (fun E X1 => ∃ (uv2 : Int32) (uv3 : Nat → Int64) (uv4 : Nat → Int32), X1 = W_X8_fittingWord g a0 a1 a2 a3 a4 a5 a6 a7 a8 a9 a10 a11 v0 v1 uv2 uv3 uv4 ∧ postX E uv2 uv3 uv4) := by
  refine ce_of (cc := cX8_fittingWord) (nL := 4) (ret := (some .long)) (by decide +kernel) rfl (Nat.le_of_ble_eq_true rfl) ?_
  intro x hf hl hg hn hi hr hx
  subst hl
  subst hg
  show ww x (W_X8_fittingWord (xg x) a0 a1 a2 a3 a4 a5 a6 a7 a8 a9 a10 a11 v0 v1 v2 v3 v4) [(0, .ref a0), (1, .long p1), (3, .int p3)] 0 0 0 []
  unfold P_X8_fittingWord at h
  refine xw_lload_n hf (pc := 0) dX8_fittingWord_0 rfl 1 rfl ?_
  refine xw_callSX hf (pc := 1) (nA := 1) (Xr := W_X8_fittingWord (xg x) a0 a1 a2 a3 a4 a5 a6 a7 a8 a9 a10 a11 v0 v1 v2 v3 v4) (rest := []) (c_X8_requireWord (xl x) (xg x) hst p1 h) gX8_fittingWord_X8_requireWord (by rfl) rfl (by decide +kernel) ⟨⟨(Nat.le_of_ble_eq_true rfl), (Nat.le_of_ble_eq_true rfl)⟩, (Nat.le_of_ble_eq_true rfl), (Nat.le_of_ble_eq_true rfl)⟩ (Nat.le_of_ble_eq_true rfl) (sb_rf _) rfl dX8_fittingWord_1 (fun v X1 hp => ?_) (fun E8 X1 hp => ?_)
  · obtain ⟨rfl, rfl, h⟩ := hp
    show ww x (W_X8_fittingWord (xg x) a0 a1 a2 a3 a4 a5 a6 a7 a8 a9 a10 a11 v0 v1 v2 v3 v4) [(0, .ref a0), (1, .long p1), (3, .int p3)] 1 6 4 []
    refine xw_aload_n hf (pc := 4) dX8_fittingWord_4 rfl 0 rfl ?_
    refine xw_get hf (pc := 5) dX8_fittingWord_5 (T := TX8) mi_X8_fittingWord_X8 rfl 0 rfl 0 (by decide) rfl mw_X8_fittingWord_0 rfl ?_
    refine xw_lload_n hf (pc := 8) dX8_fittingWord_8 rfl 1 rfl ?_
    refine xw_callV hf (pc := 9) (nA := 1) (Xr := [(a0, .inr (8, [.ref a1, .ref a8, .ref a9, .ref a10, .ref a11]))]) (rest := []) (T := TX1) (c_X1_fitting (xl x) (xg x) a1 a2 a3 a4 a5 a6 a7 v0 v1 v2 v3 v4 p1 h) gX8_fittingWord_X1_fitting (by rfl) rfl rfl (by decide +kernel) ⟨⟨(Nat.le_of_ble_eq_true rfl), (Nat.le_of_ble_eq_true rfl)⟩, (Nat.le_of_ble_eq_true rfl), (Nat.le_of_ble_eq_true rfl)⟩ (Nat.le_of_ble_eq_true rfl) rfl rfl (sb_of [1, 2, 3, 4, 5, 6, 7, 0] rfl rfl) rfl dX8_fittingWord_9 (fun v X1 hp => ?_)
    obtain ⟨w3, w4, w5, rfl, rfl, h⟩ := hp
    refine xw_X (sb_of [7, 0, 1, 2, 3, 4, 5, 6] rfl rfl) (show ww x (W_X8_fittingWord (xg x) a0 a1 a2 a3 a4 a5 a6 a7 a8 a9 a10 a11 v0 v1 w3 w4 w5) [(0, .ref a0), (1, .long p1), (3, .int p3)] 1 6 12 [.ref a4] from ?_)
    refine xw_iload_n hf (pc := 12) dX8_fittingWord_12 rfl 2 rfl ?_
    refine xw_callSX hf (pc := 13) (nA := 2) (Xr := [(a0, .inr (8, [.ref a1, .ref a8, .ref a9, .ref a10, .ref a11])), (a1, .inr (2, [.ref a2, .ref a4, .ref a6])), (a2, .inr (7, [.ref a3, .int v0])), (a3, .inl (gJ (xg x), 60, .inr (.inl v1))), (a6, .inr (3, [.ref a7])), (a7, .inl (gI (xg x), 32, .inl w5))]) (rest := []) (c_X8_requireWordOf (xl x) (xg x) hst a4 a5 w3 w4 p3 h) gX8_fittingWord_X8_requireWordOf (by rfl) rfl (by decide +kernel) ⟨⟨(Nat.le_of_ble_eq_true rfl), (Nat.le_of_ble_eq_true rfl)⟩, (Nat.le_of_ble_eq_true rfl), (Nat.le_of_ble_eq_true rfl)⟩ (Nat.le_of_ble_eq_true rfl) (sb_of [4, 5, 0, 1, 2, 3, 6, 7] rfl rfl) rfl dX8_fittingWord_13 (fun v X1 hp => ?_) (fun E7 X1 hp => ?_)
    · obtain ⟨r6, rfl, rfl, h⟩ := hp
      refine xw_X (sb_of [2, 3, 4, 5, 0, 1, 6, 7] rfl rfl) (show ww x (W_X8_fittingWord (xg x) a0 a1 a2 a3 a4 a5 a6 a7 a8 a9 a10 a11 v0 v1 w3 w4 w5) [(0, .ref a0), (1, .long p1), (3, .int p3)] 2 12 16 [.long r6] from ?_)
      exact xw_lret hf (pc := 16) dX8_fittingWord_16 hr (Nat.le_of_ble_eq_true rfl) (Nat.le_of_ble_eq_true rfl) ⟨_, _, _, _, rfl, rfl, h⟩
    · obtain ⟨rfl, h⟩ := hp
      refine xe_X (sb_of [2, 3, 4, 5, 0, 1, 6, 7] rfl rfl) (show wx x (W_X8_fittingWord (xg x) a0 a1 a2 a3 a4 a5 a6 a7 a8 a9 a10 a11 v0 v1 w3 w4 w5) [(0, .ref a0), (1, .long p1), (3, .int p3)] 2 12 13 E7 [] from ?_)
      exact xw_out hx (Nat.le_of_ble_eq_true rfl) (Nat.le_of_ble_eq_true rfl) ⟨_, _, _, rfl, h⟩
  · obtain ⟨rfl, h⟩ := hp
    show wx x (W_X8_fittingWord (xg x) a0 a1 a2 a3 a4 a5 a6 a7 a8 a9 a10 a11 v0 v1 v2 v3 v4) [(0, .ref a0), (1, .long p1), (3, .int p3)] 1 6 1 E8 []
    exact xw_out hx (Nat.le_of_ble_eq_true rfl) (Nat.le_of_ble_eq_true rfl) ⟨_, _, _, rfl, h⟩
