/-! what the model asks of its dictionary -/
def askB (n q m : Nat) : Bool := q == 0 || (fitsB n m && (q == 1 || wlen m == wlen n))
def spelt (n q : Nat) (v4 : Int32) (co : Nat → Int32) : Prop := q ≠ 0 → n < 32 ^ 12 ∧ v4 = nI (wlen n) ∧ ∀ l : Nat, l ≤ 26 → co l = nI (cnt n l)
theorem p_xask {n q m : Nat} (hq : q ≤ 2) (hw : isW m) {v4 : Int32} {co : Nat → Int32} (hs : spelt n q v4 co) {v0 v1 v2 v3 v5 : Int32} {post : Int32 → Prop} (h1 : askB n q m = true → post 1) (h0 : askB n q m = false → post 0) : P_X9_isAsked post (lN m) (nI q) v0 v1 v2 v3 v4 v5 co := by
  unfold P_X9_isAsked
  refine ⟨fun e => h1 ?_, fun e => ?_⟩
  · have := (neq (a := q) (b := 0) (by omega) (by omega)).mp e
    rw [this]; rfl
  · have e0 : q ≠ 0 := fun z => e (by rw [z]; rfl)
    obtain ⟨hn, rfl, hco⟩ := hs e0
    have b0 : (q == 0) = false := by simpa using e0
    refine p_xfits hn hw hco (fun hf => ⟨fun z => absurd z (by decide), fun _ => ⟨fun e1 => h1 ?_, fun e1 => ?_⟩⟩) (fun hf => ⟨fun _ => h0 ?_, fun z => absurd rfl z⟩)
    · have := (neq (a := q) (b := 1) (by omega) (by omega)).mp e1
      unfold askB
      rw [hf, this]; rfl
    · have b1 : (q == 1) = false := by
        have : q ≠ 1 := fun z => e1 (by rw [z]; rfl)
        simpa using this
      have hl := isW_len hw
      have hln : wlen n ≤ 12 := (wlen_le (by omega)).mpr hn
      refine p_xlen (Nat.lt_trans hw.2.1 (by decide)) ⟨fun z => h1 ?_, fun z => h0 ?_⟩
      · have := (neq (by omega) (by omega)).mp z
        unfold askB
        rw [hf, b0, b1, this]; simp
      · have : wlen m ≠ wlen n := fun y => z (by rw [y])
        unfold askB
        rw [b0, b1]
        simp [this]
    · unfold askB
      rw [hf, b0]; rfl
theorem drop_at {S : List Nat} {i a : Nat} {T : List Nat} (hd : S.drop i = a :: T) : S[i]? = some a ∧ S.drop (i + 1) = T := by
  refine ⟨?_, ?_⟩
  · have := List.getElem?_drop (xs := S) (i := i) (j := 0)
    rw [hd] at this
    simpa using this.symm
  · rw [← List.drop_drop (i := 1) (j := i) (l := S)] <;> rw [hd]
    rfl
theorem drop_nil {S : List Nat} {i : Nat} (hd : S.drop i = []) : S.length ≤ i := by
  have := congrArg List.length hd
  rw [List.length_drop] at this
  simp at this; omega
theorem p_xcaskL {n q : Nat} (hq : q ≤ 2) {v1 v4 : Int32} {v6 : Nat → Int64} {co : Nat → Int32} (hs : spelt n q v4 co) {M : List Nat} (hr : rowIs v1 v6 M) (hM : ∀ m ∈ M, isW m) {v0 v2 v3 v5 : Int32} {K : Int32 → Prop} :
    ∀ (T : List Nat) (i a fuel : Nat), M.drop i = T → i ≤ M.length → T.length < fuel → K (nI (a + (T.filter (askB n q)).length)) → P_X9_countAsked_L4 (nI q) v0 v1 v2 v3 v4 v5 v6 co K fuel (nI a) (nI i) := by
  obtain ⟨rfl, h60, hf6⟩ := hr
  intro T
  induction T with
  | nil =>
    intro i a fuel hd hi hf h
    obtain ⟨g, rfl⟩ : ∃ g, fuel = g + 1 := ⟨fuel - 1, by simp at hf; omega⟩
    unfold P_X9_countAsked_L4
    exact ⟨fun _ => h, fun z => absurd (nI_le (drop_nil hd) (by omega)) z⟩
  | cons m T ih =>
    intro i a fuel hd hi hf h
    obtain ⟨g, rfl⟩ : ∃ g, fuel = g + 1 := ⟨fuel - 1, by simp at hf; omega⟩
    obtain ⟨hai, hd2⟩ := drop_at hd
    have hil := (List.getElem?_eq_some_iff.mp hai).1
    have hwm := hM m (List.mem_of_getElem? hai)
    have hf2 : T.length < g := by simp at hf; omega
    unfold P_X9_countAsked_L4
    refine ⟨fun z => absurd z (nI_ge hil (by omega)), fun _ => ⟨nI_in (by omega) (by omega), ?_⟩⟩
    rw [nI_clamp (by omega), hf6 i m hai, ← nI_succ]
    refine p_xask hq hwm hs (fun hb => ⟨fun z => absurd z (by decide), fun _ y hy => ?_⟩) (fun hb => ⟨fun _ y hy => ?_, fun z => absurd rfl z⟩)
    · rw [hy, ← nI_succ]
      refine ih (i + 1) (a + 1) g hd2 (by omega) hf2 ?_
      rw [List.filter_cons, hb] at h
      rw [show a + 1 + (T.filter (askB n q)).length = a + (m :: T.filter (askB n q)).length by rw [List.length_cons]; omega]
      exact h
    · rw [hy, Int32.add_zero]
      refine ih (i + 1) a g hd2 (by omega) hf2 ?_
      rw [List.filter_cons, hb] at h
      exact h
theorem p_xcask {n q : Nat} (hq : q ≤ 2) {v1 v4 : Int32} {v6 : Nat → Int64} {co : Nat → Int32} (hs : spelt n q v4 co) {M : List Nat} (hr : rowIs v1 v6 M) (hM : ∀ m ∈ M, isW m) {v0 v2 v3 v5 : Int32} {post : Int32 → Prop} (h : post (nI (M.filter (askB n q)).length)) : P_X9_countAsked post (nI q) v0 v1 v2 v3 v4 v5 v6 co := by
  have h60 := hr.2.1
  have key := p_xcaskL hq hs hr hM (v0 := v0) (v2 := v2) (v3 := v3) (v5 := v5) (K := fun (x4 : Int32) => post x4) M 0 0 FU rfl (Nat.zero_le _) (FU_s _ (by omega)) (by rw [Nat.zero_add]; exact h)
  rw [nI_0] at key
  exact key
/-- how many that are asked for come before m -/
def bef (n q : Nat) (L : List Nat) (m : Nat) : Nat := (L.filter (fun x => askB n q x && decide (rk x < rk m))).length
theorem p_xbefL {n q : Nat} (hq : q ≤ 2) {v1 v4 : Int32} {v6 : Nat → Int64} {co : Nat → Int32} (hs : spelt n q v4 co) {M : List Nat} (hr : rowIs v1 v6 M) (hM : ∀ m ∈ M, isW m) {k mk : Nat} (hk : M[k]? = some mk) {z2 v0 v2 v3 v5 : Int32} {K : Int32 → Prop} :
    ∀ (T : List Nat) (i a fuel : Nat), M.drop i = T → i ≤ M.length → T.length < fuel → K (nI (a + bef n q T mk)) → P_X9_asked_L16 (nI q) z2 (nI k) v0 v1 v2 v3 v4 v5 v6 co K fuel (nI a) (nI i) := by
  obtain ⟨rfl, h60, hf6⟩ := hr
  have hkl := (List.getElem?_eq_some_iff.mp hk).1
  have hwk := hM mk (List.mem_of_getElem? hk)
  intro T
  induction T with
  | nil =>
    intro i a fuel hd hi hf h
    obtain ⟨g, rfl⟩ : ∃ g, fuel = g + 1 := ⟨fuel - 1, by simp at hf; omega⟩
    unfold P_X9_asked_L16
    exact ⟨fun _ => h, fun z => absurd (nI_le (drop_nil hd) (by omega)) z⟩
  | cons m T ih =>
    intro i a fuel hd hi hf h
    obtain ⟨g, rfl⟩ : ∃ g, fuel = g + 1 := ⟨fuel - 1, by simp at hf; omega⟩
    obtain ⟨hai, hd2⟩ := drop_at hd
    have hil := (List.getElem?_eq_some_iff.mp hai).1
    have hwm := hM m (List.mem_of_getElem? hai)
    have hf2 : T.length < g := by simp at hf; omega
    have e := List.filter_cons (p := fun x => askB n q x && decide (rk x < rk mk)) (x := m) (xs := T)
    have hb0 : bef n q (m :: T) mk = (if (askB n q m && decide (rk m < rk mk)) = true then m :: T.filter (fun x => askB n q x && decide (rk x < rk mk)) else T.filter (fun x => askB n q x && decide (rk x < rk mk))).length := congrArg List.length e
    unfold P_X9_asked_L16
    refine ⟨fun z => absurd z (nI_ge hil (by omega)), fun _ => ⟨nI_in (by omega) (by omega), ?_⟩⟩
    have ci : (nI i).toNatClampNeg = i := nI_clamp (by omega)
    have ck : (nI k).toNatClampNeg = k := nI_clamp (by omega)
    rw [ci, ck, hf6 i m hai, hf6 k mk hk, ← nI_succ]
    have l1 := rk_lt hwm.2.1
    have l2 := rk_lt hwk.2.1
    refine p_xask hq hwm hs (fun hb => ⟨fun z => absurd z (by decide), fun _ => ⟨nI_in (by omega) (by omega), p_xkey hwm.2.1 ⟨nI_in (by omega) (by omega), ?_⟩⟩⟩) (fun hb => ⟨fun _ y hy => ?_, fun z => absurd rfl z⟩)
    · refine p_xkey hwk.2.1 ⟨fun z y hy => ?_, fun z y hy => ?_⟩
      · have z' := (pk_lLE (by omega) (by omega)).mp z
        rw [hy, Int32.add_zero]
        refine ih (i + 1) a g hd2 (by omega) hf2 ?_
        rw [hb, decide_eq_false (by omega), if_neg (by decide)] at hb0
        rw [hb0] at h
        exact h
      · have z' : ¬ rk mk ≤ rk m := fun w => z ((pk_lLE (by omega) (by omega)).mpr w)
        rw [hy, ← nI_succ]
        refine ih (i + 1) (a + 1) g hd2 (by omega) hf2 ?_
        rw [hb, decide_eq_true (by omega), if_pos (by decide), List.length_cons] at hb0
        rw [hb0] at h
        rw [show a + 1 + bef n q T mk = a + ((T.filter (fun x => askB n q x && decide (rk x < rk mk))).length + 1) by show a + 1 + (T.filter _).length = _; omega]
        exact h
    · rw [hy, Int32.add_zero]
      refine ih (i + 1) a g hd2 (by omega) hf2 ?_
      rw [hb, Bool.false_and, if_neg (by decide)] at hb0
      rw [hb0] at h
      exact h
theorem p_xaskedL {n q : Nat} (hq : q ≤ 2) {v1 v4 : Int32} {v6 : Nat → Int64} {co : Nat → Int32} (hs : spelt n q v4 co) {M : List Nat} (hr : rowIs v1 v6 M) (hM : ∀ m ∈ M, isW m) {z2 v0 v2 v3 v5 : Int32} {K99 : Int32 → Prop} {K112 : Prop}
    (h1 : ∀ k m : Nat, M[k]? = some m → askB n q m = true → z2 = nI (bef n q M m) → K99 (nI k)) (h0 : (∀ m ∈ M, askB n q m = true → z2 ≠ nI (bef n q M m)) → K112) :
    ∀ (T : List Nat) (i fuel : Nat), M.drop i = T → i ≤ M.length → T.length < fuel → (∀ m ∈ M.take i, askB n q m = true → z2 ≠ nI (bef n q M m)) → P_X9_asked_L2 (nI q) z2 v0 v1 v2 v3 v4 v5 v6 co K99 K112 fuel (nI i) := by
  have hr' := hr
  obtain ⟨rfl, h60, hf6⟩ := hr
  intro T
  induction T with
  | nil =>
    intro i fuel hd hi hf h
    obtain ⟨g, rfl⟩ : ∃ g, fuel = g + 1 := ⟨fuel - 1, by simp at hf; omega⟩
    unfold P_X9_asked_L2
    refine ⟨fun _ => h0 fun m hm => h m ?_, fun z => absurd (nI_le (drop_nil hd) (by omega)) z⟩
    rw [List.take_of_length_le (drop_nil hd)]
    exact hm
  | cons m T ih =>
    intro i fuel hd hi hf h
    obtain ⟨g, rfl⟩ : ∃ g, fuel = g + 1 := ⟨fuel - 1, by simp at hf; omega⟩
    obtain ⟨hai, hd2⟩ := drop_at hd
    have hil := (List.getElem?_eq_some_iff.mp hai).1
    have hwm := hM m (List.mem_of_getElem? hai)
    have hf2 : T.length < g := by simp at hf; omega
    have next : (askB n q m = true → z2 ≠ nI (bef n q M m)) → P_X9_asked_L2 (nI q) z2 v0 (nI M.length) v2 v3 v4 v5 v6 co K99 K112 g (nI i + 1) := fun hz => by
      rw [← nI_succ]
      refine ih (i + 1) g hd2 (by omega) hf2 (fun x hx => ?_)
      rw [List.take_add_one, hai] at hx
      rcases List.mem_append.mp hx with hx | hx
      · exact h x hx
      · have := List.mem_singleton.mp hx
        rw [this]; exact hz
    unfold P_X9_asked_L2
    refine ⟨fun z => absurd z (nI_ge hil (by omega)), fun _ => ?_⟩
    have key := p_xbefL hq hs hr' hM hai (z2 := z2) (v0 := v0) (v2 := v2) (v3 := v3) (v5 := v5) (K := fun (x7 : Int32) => (x7 = z2 → vp_in (nI i) 60 ∧ P_X9_isAsked (fun (r8 : Int32) => (r8 = 0 → P_X9_asked_L2 (nI q) z2 v0 (nI M.length) v2 v3 v4 v5 v6 co K99 K112 g (nI i + 1)) ∧ (¬ (r8 = 0) → K99 (nI i))) (v6 (nI i).toNatClampNeg) (nI q) v0 (nI M.length) v2 v3 v4 v5 co) ∧ (¬ (x7 = z2) → P_X9_asked_L2 (nI q) z2 v0 (nI M.length) v2 v3 v4 v5 v6 co K99 K112 g (nI i + 1))) M 0 0 FU rfl (Nat.zero_le _) (FU_s _ (by omega)) ?_
    · rw [nI_0] at key
      exact key
    · rw [Nat.zero_add]
      refine ⟨fun z => ⟨nI_in (by omega) (by omega), ?_⟩, fun z => next fun _ w => z w.symm⟩
      rw [nI_clamp (by omega), hf6 i m hai]
      refine p_xask hq hwm hs (fun hb => ⟨fun w => absurd w (by decide), fun _ => h1 i m hai hb z.symm⟩) (fun hb => ⟨fun _ => next fun w => absurd (hb.symm.trans w) (by decide), fun w => absurd rfl w⟩)
theorem p_xasked {n q : Nat} (hq : q ≤ 2) {v1 v4 : Int32} {v6 : Nat → Int64} {co : Nat → Int32} (hs : spelt n q v4 co) {M : List Nat} (hr : rowIs v1 v6 M) (hM : ∀ m ∈ M, isW m) {z2 v0 v2 v3 v5 : Int32} {post : Int64 → Prop}
    (h1 : ∀ m ∈ M, askB n q m = true → z2 = nI (bef n q M m) → post (lN m)) (h0 : (∀ m ∈ M, askB n q m = true → z2 ≠ nI (bef n q M m)) → post 0) : P_X9_asked post (nI q) z2 v0 v1 v2 v3 v4 v5 v6 co := by
  have h60 := hr.2.1
  have key := p_xaskedL hq hs hr hM (z2 := z2) (v0 := v0) (v2 := v2) (v3 := v3) (v5 := v5) (K99 := fun (x9 : Int32) => vp_in x9 60 ∧ post (v6 x9.toNatClampNeg)) (K112 := post 0) (fun k m hk hb hz => by
    have hkl := (List.getElem?_eq_some_iff.mp hk).1
    refine ⟨nI_in (by omega) (by omega), ?_⟩
    rw [nI_clamp (by omega), hr.2.2 k m hk]
    exact h1 m (List.mem_of_getElem? hk) hb hz) h0 M 0 FU rfl (Nat.zero_le _) (FU_s _ (by omega)) (fun m hm => by simp at hm)
  rw [nI_0] at key
  exact key
