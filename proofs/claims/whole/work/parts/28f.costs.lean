/-! costOf, missingLetter, refusalOf of both -/
theorem missAt_one {n l k : Nat} {u : Nat → Nat} (h : missAt n u l) (g : missAt n u k) : l = k := by
  rcases Nat.lt_trichotomy l k with c | c | c
  · have := g.2.2.2 l h.1 c
    have := h.2.2.1
    omega
  · exact c
  · have := h.2.2.2 k g.1 c
    have := g.2.2.1
    omega
theorem p_ccost {p : Int64} {v v1 v2 : Nat → Int32} {u b : Nat → Nat} (hu : isU v u) (hb : isB v1 b) (ht : isWt v2) {post : Int32 → (Nat → Int32) → Prop} {postX : String → (Nat → Int32) → Prop}
    (h1 : ∀ n : Nat, p = lN n → isW n → okU u n (wlen n) → post (nI (costN n u b)) v) (h2 : ∀ n : Nat, p = lN n → isW n → ¬ okU u n (wlen n) → postX sNSE v) (hi : ¬ isWd p → postX sIAE v) : P_X8_costOf post postX p v v1 v2 := by
  refine p_reqWord (fun hw => ?_) hi
  obtain ⟨n, rfl, hw⟩ := hw
  exact p_holds hw hu (fun ho => ⟨fun q => absurd q (by decide), fun _ => p_weigh hw hu hb ht ho (h1 n rfl hw ho)⟩) (fun ho => ⟨fun _ => h2 n rfl hw ho, fun q => absurd rfl q⟩)
theorem p_xcostOf {p : Int64} {v6 v7 : Nat → Int32} {u b : Nat → Nat} (hu : isU v6 u) (hb : isB v7 b) {v0 v1 v2 v3 v4 v5 : Int32} {v8 v9 v10 : Nat → Int32} {post : Int32 → Int32 → Int32 → (Nat → Int32) → (Nat → Int32) → (Nat → Int32) → Prop}
    (h1 : ∀ n : Nat, p = lN n → isW n → okU u n (wlen n) → ∀ a sp co w, post (nI (costN n u b)) 0 a sp co w) (h2 : ∀ n : Nat, p = lN n → isW n → ¬ okU u n (wlen n) → ∀ a sp co w, post 0 2 a sp co w) (hi : ¬ isWd p → ∀ a sp co w, post 0 1 a sp co w) : P_X9_costOf post p v0 v1 v2 v3 v4 v5 v6 v7 v8 v9 v10 := by
  refine p_xisW (fun hw => ?_) (fun hw => p_good0 ⟨fun _ => hi hw _ _ _ _, fun q => absurd rfl q⟩)
  obtain ⟨n, rfl, hw⟩ := hw
  exact p_good1 ⟨fun q => absurd q (by decide), fun _ => p_xspell hw (fun sp co hs => p_xmissing hw.2.1 hu hs.2 (fun l hl => ⟨fun z => absurd z (missAt_m1 hl), fun _ => h2 n rfl hw (missAt_no hl) _ _ _ _⟩) (fun ho => ⟨fun _ => p_xcost hw hu hb hs.1 ho (fun w => h1 n rfl hw ho _ _ _ _), fun z => absurd rfl z⟩))⟩
theorem p_cmis {p : Int64} {v : Nat → Int32} {u : Nat → Nat} (hu : isU v u) {post : Int32 → Prop} {postX : String → Prop}
    (h1 : ∀ n l : Nat, p = lN n → isW n → missAt n u l → post (nI l)) (h0 : ∀ n : Nat, p = lN n → isW n → okU u n (wlen n) → post (-1)) (hi : ¬ isWd p → postX sIAE) : P_X8_missingLetter post postX p v := by
  refine p_reqWord (fun hw => ?_) hi
  obtain ⟨n, rfl, hw⟩ := hw
  exact p_lacking hw.2.1 hu (fun l hl => h1 n l rfl hw hl) (h0 n rfl hw)
theorem p_xmis {p : Int64} {v6 : Nat → Int32} {u : Nat → Nat} (hu : isU v6 u) {v0 v1 v2 v3 v4 v5 : Int32} {v7 v8 : Nat → Int32} {post : Int32 → Int32 → Int32 → (Nat → Int32) → (Nat → Int32) → Prop}
    (h1 : ∀ n l : Nat, p = lN n → isW n → missAt n u l → ∀ a sp co, post (nI l) 0 a sp co) (h0 : ∀ n : Nat, p = lN n → isW n → okU u n (wlen n) → ∀ a sp co, post (-1) 0 a sp co) (hi : ¬ isWd p → ∀ a sp co, post 0 1 a sp co) : P_X9_missingLetter post p v0 v1 v2 v3 v4 v5 v6 v7 v8 := by
  refine p_xisW (fun hw => ?_) (fun hw => p_good0 ⟨fun _ => hi hw _ _ _, fun q => absurd rfl q⟩)
  obtain ⟨n, rfl, hw⟩ := hw
  exact p_good1 ⟨fun q => absurd q (by decide), fun _ => p_xspell hw (fun sp co hs => p_xmissing hw.2.1 hu hs.2 (fun l hl => h1 n l rfl hw hl _ _ _) (fun ho => h0 n rfl hw ho _ _ _))⟩
theorem p_crefO {p : Int64} {z c : Int32} {f : Nat → Int64} {S : List Nat} (hr : rowIs c f S) (hd : dicS S) {v v1 v2 : Nat → Int32} {u b : Nat → Nat} (hu : isU v u) (hb : isB v1 b) (ht : isWt v2) {post : Int32 → (Nat → Int32) → Prop} {postX : String → (Nat → Int32) → Prop}
    (h1 : ∀ n B : Nat, p = lN n → isW n → z = nI B → B ≤ 99999 → post (nI (refN S u b B n)) v) (hi : ¬ (isWd p ∧ inR z 0 99999) → postX sIAE v) : P_X8_refusalOf post postX p z c f v v1 v2 := by
  refine p_reqWord (fun hw => p_reqBudget (fun hz => ?_) (fun h => hi fun q => h q.2)) (fun h => hi fun q => h q.1)
  obtain ⟨n, rfl, hw⟩ := hw
  obtain ⟨B, -, hB, rfl⟩ := hz
  exact p_reason hw (by omega) hr hd hu hb ht (h1 n B rfl hw rfl hB)
