/-! the model's refusalOf; affordable words of the component -/
theorem p_xrefO {p : Int64} {z v1 : Int32} {v6 : Nat → Int64} {S M : List Nat} (hr : rowIs v1 v6 M) (hd : dRel S M) {v7 v8 : Nat → Int32} {u b : Nat → Nat} (hu : isU v7 u) (hb : isB v8 b) {v0 v2 v3 v4 v5 : Int32} {v9 v10 v11 : Nat → Int32} {post : Int32 → Int32 → Int32 → (Nat → Int32) → (Nat → Int32) → (Nat → Int32) → Prop}
    (h1 : ∀ n B : Nat, p = lN n → isW n → z = nI B → B ≤ 99999 → ∀ a sp co w, post (nI (refN S u b B n)) 0 a sp co w) (hi : ¬ (isWd p ∧ inR z 0 99999) → ∀ a sp co w, post 0 1 a sp co w) : P_X9_refusalOf post p z v0 v1 v2 v3 v4 v5 v6 v7 v8 v9 v10 v11 := by
  refine p_xisW (fun hw => ⟨fun q => absurd q (by decide), fun _ => p_xbudget (fun hz => ⟨fun q => absurd q (by decide), fun _ => ?_⟩) (fun h => ⟨fun _ => p_good0 ⟨fun _ => hi (fun q => h q.2) _ _ _ _, fun q => absurd rfl q⟩, fun q => absurd rfl q⟩)⟩) (fun h => ⟨fun _ => p_good0 ⟨fun _ => hi (fun q => h q.1) _ _ _ _, fun q => absurd rfl q⟩, fun q => absurd rfl q⟩)
  obtain ⟨n, rfl, hw⟩ := hw
  obtain ⟨B, -, hB, rfl⟩ := hz
  exact p_good1 ⟨fun q => absurd q (by decide), fun _ => p_xref hw (by omega) hr hd hu hb (fun sp co w _ => h1 n B rfl hw rfl hB _ _ _ _)⟩
theorem p_caffL {B : Nat} (hB : B < 2 ^ 31) {c : Int32} {f : Nat → Int64} {S : List Nat} (hr : rowIs c f S) (hS : ∀ m ∈ S, isW m) {v v3 v4 : Nat → Int32} {u b : Nat → Nat} (hu : isU v u) (hb : isB v3 b) (ht : isWt v4) {K : Int32 → (Nat → Int32) → Prop} :
    ∀ (T : List Nat) (i a fuel : Nat), S.drop i = T → i ≤ S.length → T.length < fuel → K (nI (a + (T.filter (selB u b B)).length)) v → P_X8_affordableWords_L8 (nI B) c f v3 v4 K fuel (nI a) (nI i) v := by
  obtain ⟨rfl, h60, -⟩ := id hr
  intro T
  induction T with
  | nil =>
    intro i a fuel hd hi hf h
    obtain ⟨g, rfl⟩ : ∃ g, fuel = g + 1 := ⟨fuel - 1, by simp at hf; omega⟩
    unfold P_X8_affordableWords_L8
    exact ⟨fun _ => h, fun z => absurd (nI_le (drop_nil hd) (by omega)) z⟩
  | cons m T ih =>
    intro i a fuel hd hi hf h
    obtain ⟨g, rfl⟩ : ∃ g, fuel = g + 1 := ⟨fuel - 1, by simp at hf; omega⟩
    obtain ⟨hai, hd2⟩ := drop_at hd
    have hil := (List.getElem?_eq_some_iff.mp hai).1
    have hwm := hS m (List.mem_of_getElem? hai)
    have hf2 : T.length < g := by simp at hf; omega
    unfold P_X8_affordableWords_L8
    rw [← nI_succ, ← nI_succ]
    refine ⟨fun z => absurd z (nI_ge hil (by omega)), fun _ => p_word hr hai (p_canSell hwm hB hu hb ht (fun hb' => ⟨fun z => absurd z (by decide), fun _ => ?_⟩) (fun hb' => ⟨fun _ => ?_, fun z => absurd rfl z⟩))⟩
    · refine ih (i + 1) (a + 1) g hd2 (by omega) hf2 ?_
      rw [List.filter_cons, hb'] at h
      rw [show a + 1 + (T.filter (selB u b B)).length = a + (m :: T.filter (selB u b B)).length by rw [List.length_cons]; omega]
      exact h
    · refine ih (i + 1) a g hd2 (by omega) hf2 ?_
      rw [List.filter_cons, hb'] at h
      exact h
theorem p_caff {z c : Int32} {f : Nat → Int64} {S : List Nat} (hr : rowIs c f S) (hS : ∀ m ∈ S, isW m) {v v3 v4 : Nat → Int32} {u b : Nat → Nat} (hu : isU v u) (hb : isB v3 b) (ht : isWt v4) {post : Int32 → (Nat → Int32) → Prop} {postX : String → (Nat → Int32) → Prop}
    (h1 : ∀ B : Nat, z = nI B → B ≤ 99999 → post (nI (S.filter (selB u b B)).length) v) (hi : ¬ inR z 0 99999 → postX sIAE v) : P_X8_affordableWords post postX z c f v v3 v4 := by
  have h60 := hr.2.1
  refine p_reqBudget (fun hz => ?_) hi
  obtain ⟨B, -, hB, rfl⟩ := hz
  have key := p_caffL (B := B) (by omega) hr hS hu hb ht (K := fun (x8 : Int32) (w9 : Nat → Int32) => post x8 w9) S 0 0 FU rfl (Nat.zero_le _) (FU_s _ (by omega)) (by rw [Nat.zero_add]; exact h1 B rfl hB)
  rw [nI_0] at key
  exact key
theorem p_cbestW {z c : Int32} {f : Nat → Int64} {S : List Nat} (hr : rowIs c f S) (hd : dicS S) {v v3 v4 : Nat → Int32} {u b : Nat → Nat} (hu : isU v u) (hb : isB v3 b) (ht : isWt v4) {post : Int64 → (Nat → Int32) → Prop} {postX : String → (Nat → Int32) → Prop}
    (h1 : ∀ B x : Nat, z = nI B → B ≤ 99999 → isBest u b (fun m => m ∈ S ∧ selB u b B m = true) x → post (lN x) v) (hi : ¬ inR z 0 99999 → postX sIAE v) : P_X8_bestWord post postX z c f v v3 v4 := by
  refine p_reqBudget (fun hz => ?_) hi
  obtain ⟨B, -, hB, rfl⟩ := hz
  exact p_best (by omega) hr hd hu hb ht (fun x hx => h1 B x rfl hB hx)
theorem p_xbestW {z v1 : Int32} {v6 : Nat → Int64} {S M : List Nat} (hr : rowIs v1 v6 M) (hd : dRel S M) {v7 v8 : Nat → Int32} {u b : Nat → Nat} (hu : isU v7 u) (hb : isB v8 b) {v0 v2 v3 v4 v5 : Int32} {v9 v10 v11 : Nat → Int32} {post : Int64 → Int32 → Int32 → (Nat → Int32) → (Nat → Int32) → (Nat → Int32) → Prop}
    (h1 : ∀ B x : Nat, z = nI B → B ≤ 99999 → isBest u b (fun m => m ∈ S ∧ selB u b B m = true) x → ∀ a sp co w, post (lN x) 0 a sp co w) (hi : ¬ inR z 0 99999 → ∀ a sp co w, post 0 1 a sp co w) : P_X9_bestWord post z v0 v1 v2 v3 v4 v5 v6 v7 v8 v9 v10 v11 := by
  refine p_xbudget (fun hz => ?_) (fun h => p_good0 ⟨fun _ => hi h _ _ _ _, fun q => absurd rfl q⟩)
  obtain ⟨B, -, hB, rfl⟩ := hz
  exact p_good1 ⟨fun q => absurd q (by decide), fun _ => p_xbest (by omega) hr hd hu hb (fun x hx => h1 B x rfl hB hx)⟩
