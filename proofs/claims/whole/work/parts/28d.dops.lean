/-! anagrams and fitting words of both -/
theorem ana_eq {S : List Nat} (hS : ∀ m ∈ S, isW m) (n : Nat) : S.filter (pickB n (wlen n)) = S.filter (askB n 2) := filter_ext fun m hm => pick_2 (hS m hm)
theorem fit_eq {S : List Nat} (hS : ∀ m ∈ S, isW m) (n : Nat) : S.filter (pickB n 1) = S.filter (askB n 1) := filter_ext fun m hm => pick_1 (hS m hm)
theorem p_canaC {p : Int64} {c : Int32} {f : Nat → Int64} {S : List Nat} (hr : rowIs c f S) (hd : dicS S) {v2 : Int32} {v3 : Nat → Int64} {v4 : Nat → Int32} {post : Int32 → Int32 → (Nat → Int64) → (Nat → Int32) → Prop} {postX : String → Int32 → (Nat → Int64) → (Nat → Int32) → Prop}
    (h1 : ∀ n : Nat, p = lN n → isW n → ∀ a b d, post (nI (S.filter (askB n 2)).length) a b d) (hi : ¬ isWd p → postX sIAE v2 v3 v4) : P_X8_anagramCount post postX p c f v2 v3 v4 := by
  refine p_reqWord (fun hw => ?_) hi
  obtain ⟨n, rfl, hw⟩ := hw
  refine p_anagrams hr hd.1 hw.2.1 (fun c' f' v' hr' => ?_)
  rw [ana_eq hd.1] at hr'
  have e := hr'.1
  show post c' c' f' v'
  rw [e]
  exact h1 n rfl hw _ _ _
theorem p_cfitC {p : Int64} {c : Int32} {f : Nat → Int64} {S : List Nat} (hr : rowIs c f S) (hd : dicS S) {v2 : Int32} {v3 : Nat → Int64} {v4 : Nat → Int32} {post : Int32 → Int32 → (Nat → Int64) → (Nat → Int32) → Prop} {postX : String → Int32 → (Nat → Int64) → (Nat → Int32) → Prop}
    (h1 : ∀ n : Nat, p = lN n → isW n → ∀ a b d, post (nI (S.filter (askB n 1)).length) a b d) (hi : ¬ isWd p → postX sIAE v2 v3 v4) : P_X8_fittingCount post postX p c f v2 v3 v4 := by
  refine p_reqWord (fun hw => ?_) hi
  obtain ⟨n, rfl, hw⟩ := hw
  refine p_fitting hr hd.1 hw.2.1 (fun c' f' v' hr' => ?_)
  rw [fit_eq hd.1] at hr'
  have e := hr'.1
  show post c' c' f' v'
  rw [e]
  exact h1 n rfl hw _ _ _
theorem p_canaA {p : Int64} {z c : Int32} {f : Nat → Int64} {S : List Nat} (hr : rowIs c f S) (hd : dicS S) {v2 : Int32} {v3 : Nat → Int64} {v4 : Nat → Int32} {post : Int64 → Int32 → (Nat → Int64) → (Nat → Int32) → Prop} {postX : String → Int32 → (Nat → Int64) → (Nat → Int32) → Prop}
    (h1 : ∀ n j m : Nat, p = lN n → isW n → z = nI j → (S.filter (askB n 2))[j]? = some m → ∀ a b d, post (lN m) a b d) (h2 : ∀ n : Nat, p = lN n → isW n → (∀ j : Nat, j < (S.filter (askB n 2)).length → z ≠ nI j) → ∀ a b d, postX sIOB a b d) (hi : ¬ isWd p → postX sIAE v2 v3 v4) : P_X8_anagramAt post postX p z c f v2 v3 v4 := by
  refine p_reqWord (fun hw => ?_) hi
  obtain ⟨n, rfl, hw⟩ := hw
  refine p_anagrams hr hd.1 hw.2.1 (fun c' f' v' hr' => ?_)
  rw [ana_eq hd.1] at hr'
  exact p_reqWordOf hr' (fun j m hj hm => h1 n j m rfl hw hj hm _ _ _) (fun h => h2 n rfl hw h _ _ _)
theorem p_cfitA {p : Int64} {z c : Int32} {f : Nat → Int64} {S : List Nat} (hr : rowIs c f S) (hd : dicS S) {v2 : Int32} {v3 : Nat → Int64} {v4 : Nat → Int32} {post : Int64 → Int32 → (Nat → Int64) → (Nat → Int32) → Prop} {postX : String → Int32 → (Nat → Int64) → (Nat → Int32) → Prop}
    (h1 : ∀ n j m : Nat, p = lN n → isW n → z = nI j → (S.filter (askB n 1))[j]? = some m → ∀ a b d, post (lN m) a b d) (h2 : ∀ n : Nat, p = lN n → isW n → (∀ j : Nat, j < (S.filter (askB n 1)).length → z ≠ nI j) → ∀ a b d, postX sIOB a b d) (hi : ¬ isWd p → postX sIAE v2 v3 v4) : P_X8_fittingWord post postX p z c f v2 v3 v4 := by
  refine p_reqWord (fun hw => ?_) hi
  obtain ⟨n, rfl, hw⟩ := hw
  refine p_fitting hr hd.1 hw.2.1 (fun c' f' v' hr' => ?_)
  rw [fit_eq hd.1] at hr'
  exact p_reqWordOf hr' (fun j m hj hm => h1 n j m rfl hw hj hm _ _ _) (fun h => h2 n rfl hw h _ _ _)
theorem spelt_of {n q : Nat} (hw : isW n) {sp co : Nat → Int32} (hs : spelIs n sp co) : spelt n q (nI (wlen n)) co := fun _ => ⟨hw.2.1, rfl, hs.2⟩
theorem p_xcountQ {q : Nat} (hq : q ≤ 2) {p : Int64} {v1 : Int32} {v6 : Nat → Int64} {S M : List Nat} (hr : rowIs v1 v6 M) (hd : dRel S M) {v0 v2 v3 v4 v5 : Int32} {v7 v8 : Nat → Int32} {post : Int32 → Int32 → Int32 → (Nat → Int32) → (Nat → Int32) → Prop}
    (h1 : ∀ n : Nat, p = lN n → isW n → ∀ a sp co, post (nI (S.filter (askB n q)).length) 0 a sp co) (hi : ¬ isWd p → ∀ a sp co, post 0 1 a sp co) : P_X9_count post p (nI q) v0 v1 v2 v3 v4 v5 v6 v7 v8 := by
  refine p_xisW (fun hw => ?_) (fun hw => p_good0 ⟨fun _ => hi hw _ _ _, fun q => absurd rfl q⟩)
  obtain ⟨n, rfl, hw⟩ := hw
  refine p_good1 ⟨fun q => absurd q (by decide), fun _ => p_xspell hw (fun sp co hs => p_xcask hq (spelt_of hw hs) hr (dRel_W hd) ?_)⟩
  rw [perm_len hd.2]
  exact h1 n rfl hw _ _ _
theorem p_xfindQ {q : Nat} (hq : q ≤ 2) {p : Int64} {z v1 : Int32} {v6 : Nat → Int64} {S M : List Nat} (hr : rowIs v1 v6 M) (hd : dRel S M) {v0 v2 v3 v4 v5 : Int32} {v7 v8 : Nat → Int32} {post : Int64 → Int32 → Int32 → (Nat → Int32) → (Nat → Int32) → Prop}
    (h1 : ∀ n j m : Nat, p = lN n → isW n → z = nI j → (S.filter (askB n q))[j]? = some m → ∀ a sp co, post (lN m) 0 a sp co) (h2 : ∀ n : Nat, p = lN n → isW n → (∀ j : Nat, j < (S.filter (askB n q)).length → z ≠ nI j) → ∀ a sp co, post (0 : Int32).toInt64 2 a sp co) (hi : ¬ isWd p → ∀ a sp co, post 0 1 a sp co) : P_X9_find post p (nI q) z v0 v1 v2 v3 v4 v5 v6 v7 v8 := by
  refine p_xisW (fun hw => ?_) (fun hw => p_good0 ⟨fun _ => hi hw _ _ _, fun q => absurd rfl q⟩)
  obtain ⟨n, rfl, hw⟩ := hw
  refine p_good1 ⟨fun q => absurd q (by decide), fun _ => p_xspell hw (fun sp co hs => p_xnth hq (spelt_of hw hs) hr hd (fun j m hj hm => ?_) (fun h => ⟨fun _ => h2 n rfl hw h _ _ _, fun q => absurd rfl q⟩))⟩
  have hwm := hd.1.1 m (List.mem_filter.mp (List.mem_of_getElem? hm)).1
  have hm63 := hwm.2.1
  have hne : lN m ≠ 0 := fun q => by have := (lN_ne0 (n := m) (by omega)).mp q; have := hwm.1; omega
  exact ⟨fun q => absurd q hne, fun _ => h1 n j m rfl hw hj hm _ _ _⟩
