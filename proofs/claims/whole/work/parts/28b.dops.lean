/-! the dictionary's calls -/
theorem p_cadd {p : Int64} {c : Int32} {f : Nat → Int64} {S : List Nat} (hr : rowIs c f S) (hd : dicS S) {post : Int32 → Int32 → (Nat → Int64) → Prop} {postX : String → Int32 → (Nat → Int64) → Prop}
    (h1 : ∀ n : Nat, p = lN n → isW n → n ∉ S → S.length < 60 → ∀ f', rowIs (nI (S.length + 1)) f' (insS S n) → post (nI (S.length + 1)) (nI (S.length + 1)) f') (hi : ¬ isWd p → postX sIAE c f) (h2 : ∀ n : Nat, p = lN n → isW n → n ∈ S ∨ S.length = 60 → postX sISE c f) : P_X8_addWord post postX p c f := by
  have h60 := hr.2.1
  have hc := hr.1
  refine p_reqWord (fun hw => ?_) hi
  obtain ⟨n, rfl, hw⟩ := hw
  refine p_contains hr hd hw (fun hm => ⟨fun q => absurd q (by decide), fun _ => h2 n rfl hw (Or.inl hm)⟩) (fun hm => ⟨fun _ => ?_, fun q => absurd rfl q⟩)
  unfold P_X1_words P_X6_isFull
  refine ⟨fun q => ⟨fun _ => ?_, fun z => absurd rfl z⟩, fun q => ⟨fun z => absurd z (by decide), fun _ => h2 n rfl hw (Or.inr ?_)⟩⟩
  · rw [hc] at q
    have q' := (nlt (b := 60) (by omega) (by omega)).mp q
    refine p_dinsert hr hd.1 q' hw.2.1 (fun c' f' hr' => ?_)
    have e : c' = nI (S.length + 1) := by rw [hr'.1, insS_len]
    subst e
    exact h1 n rfl hw hm q' f' hr'
  · rw [hc] at q
    have q' : ¬ S.length < 60 := fun z => q ((nlt (b := 60) (by omega) (by omega)).mpr z)
    omega
theorem p_xadd {p : Int64} {v1 : Int32} {v6 : Nat → Int64} {M : List Nat} (hr : rowIs v1 v6 M) (hM : ∀ m ∈ M, isW m) {v0 v2 v3 v4 v5 : Int32} {post : Int32 → Int32 → Int32 → (Nat → Int64) → Prop}
    (h1 : ∀ n : Nat, p = lN n → isW n → n ∉ M → M.length < 60 → ∀ f', rowIs (nI (M.length + 1)) f' (M ++ [n]) → post (nI (M.length + 1)) 0 (nI (M.length + 1)) f') (hi : ¬ isWd p → post 0 1 v1 v6) (h2 : ∀ n : Nat, p = lN n → isW n → n ∈ M ∨ M.length = 60 → post 0 2 v1 v6) : P_X9_addWord post p v0 v1 v2 v3 v4 v5 v6 := by
  have h60 := hr.2.1
  have hc := hr.1
  refine p_xisW (fun hw => ?_) (fun hw => p_good0 ⟨fun _ => hi hw, fun q => absurd rfl q⟩)
  obtain ⟨n, rfl, hw⟩ := hw
  refine p_good1 ⟨fun q => absurd q (by decide), fun _ => p_xplace hr hM hw (fun k hk60 hk => ⟨fun q => absurd q (nI_m1 (by omega)), fun _ => h2 n rfl hw (Or.inl (List.mem_of_getElem? hk))⟩) (fun hm => ⟨fun _ => ⟨fun q => h2 n rfl hw (Or.inr ?_), fun q => ?_⟩, fun q => absurd rfl q⟩)⟩
  · rw [hc] at q
    exact (neq (b := 60) (by omega) (by omega)).mp q
  · rw [hc] at q ⊢
    have q' : M.length ≠ 60 := fun z => q (by rw [z]; rfl)
    refine ⟨nI_in (by omega) (by omega), ?_⟩
    rw [nI_clamp (by omega), ← nI_succ]
    refine h1 n rfl hw hm (by omega) _ ⟨by rw [List.length_append]; rfl, by rw [List.length_append]; show M.length + 1 ≤ 60; omega, fun i m hi' => ?_⟩
    unfold vp_updL
    by_cases e : i = M.length
    · rw [if_pos e]
      rw [e, List.getElem?_append_right (Nat.le_refl _), Nat.sub_self] at hi'
      rw [Option.some.inj hi']
    · rw [if_neg e]
      have hl := (List.getElem?_eq_some_iff.mp hi').1
      rw [List.length_append] at hl
      have hl' : i < M.length + 1 := hl
      rw [List.getElem?_append_left (by omega)] at hi'
      exact hr.2.2 i m hi'
/-- both dictionaries after a word was added -/
theorem dRel_ins {S M : List Nat} (hd : dRel S M) {n : Nat} (hw : isW n) (hm : n ∉ S) : dRel (insS S n) (M ++ [n]) := by
  refine ⟨dicS_ins hd.1 hw hm, ?_⟩
  have h1 : (M ++ [n]).Perm (n :: S) := (List.perm_append_singleton n M).trans (hd.2.cons n)
  have h2 : (insS S n).Perm (n :: S) := by
    unfold insS insAt
    exact List.perm_middle.trans (by rw [List.take_append_drop])
  exact h1.trans h2.symm
theorem p_chas {p : Int64} {c : Int32} {f : Nat → Int64} {S : List Nat} (hr : rowIs c f S) (hd : dicS S) {post : Int32 → Prop} {postX : String → Prop}
    (h1 : ∀ n : Nat, p = lN n → isW n → n ∈ S → post 1) (h0 : ∀ n : Nat, p = lN n → isW n → n ∉ S → post 0) (hi : ¬ isWd p → postX sIAE) : P_X8_hasWord post postX p c f := by
  refine p_reqWord (fun hw => ?_) hi
  obtain ⟨n, rfl, hw⟩ := hw
  exact p_contains hr hd hw (fun hm => ⟨rfl, h1 n rfl hw hm⟩) (fun hm => ⟨rfl, h0 n rfl hw hm⟩)
theorem p_xhas {p : Int64} {v1 : Int32} {v6 : Nat → Int64} {M : List Nat} (hr : rowIs v1 v6 M) (hM : ∀ m ∈ M, isW m) {v0 v2 v3 v4 v5 : Int32} {post : Int32 → Int32 → Prop}
    (h1 : ∀ n : Nat, p = lN n → isW n → n ∈ M → post 1 0) (h0 : ∀ n : Nat, p = lN n → isW n → n ∉ M → post 0 0) (hi : ¬ isWd p → post 0 1) : P_X9_hasWord post p v0 v1 v2 v3 v4 v5 v6 := by
  refine p_xisW (fun hw => ?_) (fun hw => p_good0 ⟨fun _ => hi hw, fun q => absurd rfl q⟩)
  obtain ⟨n, rfl, hw⟩ := hw
  exact p_good1 ⟨fun q => absurd q (by decide), fun _ => p_xplace hr hM hw (fun k hk60 hk => ⟨fun q => absurd q (nI_m1 (by omega)), fun _ => h1 n rfl hw (List.mem_of_getElem? hk)⟩) (fun hm => ⟨fun _ => h0 n rfl hw hm, fun q => absurd rfl q⟩)⟩
