/-! the model: affordable words, cutting -/
theorem p_xaffL {B : Nat} (hB : B < 2 ^ 31) {v1 : Int32} {v6 : Nat → Int64} {S M : List Nat} (hr : rowIs v1 v6 M) (hd : dRel S M) {v7 v8 : Nat → Int32} {u b : Nat → Nat} (hu : isU v7 u) (hb : isB v8 b) {v0 v2 v3 v5 : Int32} {K : Int32 → Int32 → (Nat → Int32) → (Nat → Int32) → (Nat → Int32) → Prop} :
    ∀ (T : List Nat) (i a fuel : Nat) (x : Int32) (sp co w : Nat → Int32), M.drop i = T → i ≤ M.length → T.length < fuel → (∀ x sp co w, K (nI (a + (T.filter (selB u b B)).length)) x sp co w) → P_X9_affordableWords_L18 (nI B) v0 v1 v2 v3 v5 v6 v7 v8 K fuel (nI a) (nI i) x sp co w := by
  obtain ⟨rfl, h60, hf6⟩ := id hr
  intro T
  induction T with
  | nil =>
    intro i a fuel x sp co w hdr hi hf h
    obtain ⟨g, rfl⟩ : ∃ g, fuel = g + 1 := ⟨fuel - 1, by simp at hf; omega⟩
    unfold P_X9_affordableWords_L18
    exact ⟨fun _ => h _ _ _ _, fun z => absurd (nI_le (drop_nil hdr) (by omega)) z⟩
  | cons m T ih =>
    intro i a fuel x sp co w hdr hi hf h
    obtain ⟨g, rfl⟩ : ∃ g, fuel = g + 1 := ⟨fuel - 1, by simp at hf; omega⟩
    obtain ⟨hai, hd2⟩ := drop_at hdr
    have hil := (List.getElem?_eq_some_iff.mp hai).1
    have hmM := List.mem_of_getElem? hai
    have hmS := hd.2.mem_iff.mp hmM
    have hwm := dRel_W hd m hmM
    have hf2 : T.length < g := by simp at hf; omega
    have hle := ref_le (S := S) (u := u) (b := b) (B := B) (n := m)
    unfold P_X9_affordableWords_L18
    rw [nI_clamp (by omega), hf6 i m hai, ← nI_succ i]
    refine ⟨fun z => absurd z (nI_ge hil (by omega)), fun _ => ⟨nI_in (by omega) (by omega), p_xref hwm hB hr hd hu hb (fun sp1 co1 w1 _ => ⟨fun z y hy => ?_, fun z y hy => ?_⟩)⟩⟩
    · have z' : refN S u b B m = 0 := (neq (b := 0) (by omega) (by omega)).mp z
      have hs := (ref_sel hmS).mp z'
      rw [hy, ← nI_succ]
      refine ih (i + 1) (a + 1) g _ _ _ _ hd2 (by omega) hf2 (fun x sp co w => ?_)
      have h' := h x sp co w
      rw [List.filter_cons, hs] at h'
      rw [show a + 1 + (T.filter (selB u b B)).length = a + (m :: T.filter (selB u b B)).length by rw [List.length_cons]; omega]
      exact h'
    · have z' : refN S u b B m ≠ 0 := fun q => z (by rw [q]; rfl)
      have hs : selB u b B m = false := by
        cases hq : selB u b B m with
        | false => rfl
        | true => exact absurd ((ref_sel hmS).mpr hq) z'
      rw [hy, Int32.add_zero]
      refine ih (i + 1) a g _ _ _ _ hd2 (by omega) hf2 (fun x sp co w => ?_)
      have h' := h x sp co w
      rw [List.filter_cons, hs] at h'
      exact h'
theorem p_xaff {z v1 : Int32} {v6 : Nat → Int64} {S M : List Nat} (hr : rowIs v1 v6 M) (hd : dRel S M) {v7 v8 : Nat → Int32} {u b : Nat → Nat} (hu : isU v7 u) (hb : isB v8 b) {v0 v2 v3 v4 v5 : Int32} {v9 v10 v11 : Nat → Int32} {post : Int32 → Int32 → Int32 → (Nat → Int32) → (Nat → Int32) → (Nat → Int32) → Prop}
    (h1 : ∀ B : Nat, z = nI B → B ≤ 99999 → ∀ a sp co w, post (nI (S.filter (selB u b B)).length) 0 a sp co w) (hi : ¬ inR z 0 99999 → ∀ a sp co w, post 0 1 a sp co w) : P_X9_affordableWords post z v0 v1 v2 v3 v4 v5 v6 v7 v8 v9 v10 v11 := by
  have h60 := hr.2.1
  refine p_xbudget (fun hz => ?_) (fun h => p_good0 ⟨fun _ => hi h _ _ _ _, fun q => absurd rfl q⟩)
  obtain ⟨B, -, hB, rfl⟩ := hz
  refine p_good1 ⟨fun q => absurd q (by decide), fun _ => ?_⟩
  have key := p_xaffL (B := B) (by omega) hr hd hu hb (v0 := 0) (v2 := v2) (v3 := v3) (v5 := v5) (K := fun (x11 : Int32) (w12 : Int32) (w13 : Nat → Int32) (w14 : Nat → Int32) (w15 : Nat → Int32) => post x11 0 w12 w13 w14 w15) M 0 0 FU v4 v9 v10 v11 rfl (Nat.zero_le _) (FU_s _ (by omega)) (fun x sp co w => by rw [Nat.zero_add, perm_len hd.2]; exact h1 B rfl hB _ _ _ _)
  rw [nI_0] at key
  exact key
theorem p_xcutA {c n : Nat} (hc : c ≤ 50) (hn : n < 32 ^ 12) {v co : Nat → Int32} {u : Nat → Nat} (hu : isU v u) (hco : ∀ l : Nat, l ≤ 26 → co l = nI (cnt n l)) {K69 K81 : Prop} (h1 : roomU u (fun l => c * cnt n l) → K81) (h0 : ¬ roomU u (fun l => c * cnt n l) → K69) : ∀ m k fuel : Nat, k + m = 26 → m < fuel → (∀ l : Nat, 1 ≤ l → l ≤ k → u l + c * cnt n l ≤ 999) → P_X9_cut_L39 (nI c) v co K69 K81 fuel (nI (k + 1)) := by
  intro m
  induction m with
  | zero =>
    intro k fuel hk hf hj
    obtain ⟨g, rfl⟩ : ∃ g, fuel = g + 1 := ⟨fuel - 1, by omega⟩
    have e : k = 26 := by omega
    subst e
    unfold P_X9_cut_L39
    exact ⟨fun _ => h1 hj, fun q => absurd (nI_lt (a := 26) (b := 27) (by omega) (by omega)) q⟩
  | succ m ih =>
    intro k fuel hk hf hj
    obtain ⟨g, rfl⟩ : ∃ g, fuel = g + 1 := ⟨fuel - 1, by omega⟩
    have a1 := (hu (k + 1) (by omega) (by omega)).1
    have a2 := (hu (k + 1) (by omega) (by omega)).2
    have hcl := cnt_le hn (k + 1)
    have hm : c * cnt n (k + 1) ≤ 50 * 12 := Nat.mul_le_mul hc hcl
    have hin : vp_in (nI (k + 1)) 27 := nI_in (by omega) (by omega)
    unfold P_X9_cut_L39
    rw [nI_clamp (show k + 1 < 2 ^ 31 by omega), a1, hco _ (by omega), nI_mul, nI_add, ← nI_succ]
    refine ⟨fun q => absurd q (nI_nlt (a := 26) (by omega) (by omega)), fun _ => ⟨hin, hin, fun q => ?_, fun q => h0 fun z => q ((nle (b := 999) (by omega) (by omega)).mpr (z (k + 1) (by omega) (by omega)))⟩⟩
    have q' := (nle (b := 999) (by omega) (by omega)).mp q
    refine ih (k + 1) g (by omega) (by omega) (fun l a d => ?_)
    by_cases e : l = k + 1
    · rw [e]; exact q'
    · exact hj l a (by omega)
theorem p_xcutB {z : Int32} {v w co : Nat → Int32} {K : (Nat → Int32) → (Nat → Int32) → Prop} (h : K (padF v (fun l => z * co l) 26) (padF w (fun l => z * co l) 26)) : ∀ m k fuel : Nat, k + m = 26 → m < fuel → P_X9_cut_L84 z co K fuel (nI (k + 1)) (padF v (fun l => z * co l) k) (padF w (fun l => z * co l) k) := by
  intro m
  induction m with
  | zero =>
    intro k fuel hk hf
    obtain ⟨g, rfl⟩ : ∃ g, fuel = g + 1 := ⟨fuel - 1, by omega⟩
    have e : k = 26 := by omega
    subst e
    unfold P_X9_cut_L84
    exact ⟨fun _ => h, fun q => absurd (nI_lt (a := 26) (b := 27) (by omega) (by omega)) q⟩
  | succ m ih =>
    intro k fuel hk hf
    obtain ⟨g, rfl⟩ : ∃ g, fuel = g + 1 := ⟨fuel - 1, by omega⟩
    have hin : vp_in (nI (k + 1)) 27 := nI_in (by omega) (by omega)
    have e1 := padF_s v (fun l => z * co l) k
    have e2 := padF_s w (fun l => z * co l) k
    unfold P_X9_cut_L84
    rw [nI_clamp (show k + 1 < 2 ^ 31 by omega), ← nI_succ]
    refine ⟨fun q => absurd q (nI_nlt (a := 26) (by omega) (by omega)), fun _ => ⟨hin, hin, hin, hin, hin, hin, ?_⟩⟩
    have key := ih (k + 1) g (by omega) (by omega)
    rw [← e1, ← e2] at key
    exact key
