/-! what is missing, the model's cost, its dictionary's places -/
def missAt (n : Nat) (u : Nat → Nat) (l : Nat) : Prop := 1 ≤ l ∧ l ≤ 26 ∧ u l < cnt n l ∧ ∀ j : Nat, 1 ≤ j → j < l → cnt n j ≤ u j
theorem occ_L {n l : Nat} (hn : n < 32 ^ 12) (hl : l < 32) {K : Int32 → Prop} (h : K (nI (cnt n l))) : ∀ m i fuel : Nat, i + m = wlen n → m < fuel → P_X7_occurrences_L11 (lN n) (nI l) (nI (wlen n)) K fuel (nI (cntU n i l)) (nI i) := by
  have hlen : wlen n ≤ 12 := (wlen_le (by omega)).mpr hn
  intro m
  induction m with
  | zero =>
    intro i fuel hi hf
    obtain ⟨g, rfl⟩ : ∃ g, fuel = g + 1 := ⟨fuel - 1, by omega⟩
    have e : i = wlen n := by omega
    subst e
    unfold P_X7_occurrences_L11
    exact ⟨fun _ => h, fun q => absurd (nI_le (Nat.le_refl _) (by omega)) q⟩
  | succ m ih =>
    intro i fuel hi hf
    obtain ⟨g, rfl⟩ : ∃ g, fuel = g + 1 := ⟨fuel - 1, by omega⟩
    have hd := dg_lt n i
    unfold P_X7_occurrences_L11
    refine ⟨fun q => absurd q (nI_ge (by omega) (by omega)), fun _ => p_letter hn (by omega) ⟨fun q => ?_, fun q => ?_⟩⟩
    · have q' := (neq (by omega) (by omega)).mp q
      rw [← nI_succ, ← nI_succ]
      have := ih (i + 1) g (by omega) (by omega)
      have e : cntU n (i + 1) l = cntU n i l + 1 := by show cntU n i l + (if dg n i = l then 1 else 0) = _; rw [if_pos q']
      rw [e] at this
      exact this
    · have q' : ¬ dg n i = l := fun z => q (by rw [z])
      rw [← nI_succ]
      have := ih (i + 1) g (by omega) (by omega)
      have e : cntU n (i + 1) l = cntU n i l := by show cntU n i l + (if dg n i = l then 1 else 0) = _; rw [if_neg q', Nat.add_zero]
      rw [e] at this
      exact this
theorem p_occ {n l : Nat} (hn : n < 32 ^ 12) (hl : l < 32) {post : Int32 → Prop} (h : post (nI (cnt n l))) : P_X7_occurrences post (lN n) (nI l) := by
  refine p_len hn ?_
  have key := occ_L hn hl (K := fun (x3 : Int32) => post x3) h (wlen n) 0 FU (Nat.zero_add _) (len_FU hn)
  have e : nI (cntU n 0 l) = 0 := nI_0
  rw [e, nI_0] at key
  exact key
theorem p_lackL {n : Nat} (hn : n < 32 ^ 12) {v : Nat → Int32} {u : Nat → Nat} (hu : isU v u) {K22 : Int32 → Prop} {K30 : Prop} (h1 : ∀ l, missAt n u l → K22 (nI l)) (h0 : okU u n (wlen n) → K30) : ∀ m i fuel : Nat, i + m = 27 → 1 ≤ i → m < fuel → (∀ j : Nat, 1 ≤ j → j < i → cnt n j ≤ u j) → P_X2_lacking_L2 (lN n) v K22 K30 fuel (nI i) := by
  intro m
  induction m with
  | zero =>
    intro i fuel hi h1i hf hj
    obtain ⟨g, rfl⟩ : ∃ g, fuel = g + 1 := ⟨fuel - 1, by omega⟩
    have e : i = 27 := by omega
    subst e
    unfold P_X2_lacking_L2
    exact ⟨fun _ => h0 fun l a b => hj l a (by omega), fun q => absurd (nI_lt (a := 26) (b := 27) (by omega) (by omega)) q⟩
  | succ m ih =>
    intro i fuel hi h1i hf hj
    obtain ⟨g, rfl⟩ : ∃ g, fuel = g + 1 := ⟨fuel - 1, by omega⟩
    have ⟨hv, hv2⟩ := hu i h1i (by omega)
    have hc := cnt_le hn i
    unfold P_X2_lacking_L2
    rw [nI_clamp (by omega), hv, ← nI_succ]
    refine ⟨fun q => absurd q (nI_nlt (a := 26) (by omega) (by omega)), fun _ => ⟨nI_in (by omega) (by omega), p_occ hn (by omega) ⟨fun q => ?_, fun q => ?_⟩⟩⟩
    · have q' := (nle (by omega) (by omega)).mp q
      refine ih (i + 1) g (by omega) (by omega) (by omega) (fun j a b => ?_)
      by_cases e : j = i
      · rw [e]; exact q'
      · exact hj j a (by omega)
    · have q' : ¬ cnt n i ≤ u i := fun z => q ((nle (by omega) (by omega)).mpr z)
      exact h1 i ⟨h1i, by omega, by omega, hj⟩
theorem p_lacking {n : Nat} (hn : n < 32 ^ 12) {v : Nat → Int32} {u : Nat → Nat} (hu : isU v u) {post : Int32 → Prop} (h1 : ∀ l, missAt n u l → post (nI l)) (h0 : okU u n (wlen n) → post (-1)) : P_X2_lacking post (lN n) v :=
  p_lackL hn hu (K22 := fun (x2 : Int32) => post x2) h1 h0 26 1 FU rfl (Nat.le_refl _) (FU_s _ (by omega)) (fun j a b => absurd a (by omega))
theorem p_xmisL {n : Nat} (hn : n < 32 ^ 12) {v co : Nat → Int32} {u : Nat → Nat} (hu : isU v u) (hco : ∀ l : Nat, l ≤ 26 → co l = nI (cnt n l)) {K23 : Int32 → Prop} {K31 : Prop} (h1 : ∀ l, missAt n u l → K23 (nI l)) (h0 : okU u n (wlen n) → K31) : ∀ m i fuel : Nat, i + m = 27 → 1 ≤ i → m < fuel → (∀ j : Nat, 1 ≤ j → j < i → cnt n j ≤ u j) → P_X9_missing_L2 v co K23 K31 fuel (nI i) := by
  intro m
  induction m with
  | zero =>
    intro i fuel hi h1i hf hj
    obtain ⟨g, rfl⟩ : ∃ g, fuel = g + 1 := ⟨fuel - 1, by omega⟩
    have e : i = 27 := by omega
    subst e
    unfold P_X9_missing_L2
    exact ⟨fun _ => h0 fun l a b => hj l a (by omega), fun q => absurd (nI_lt (a := 26) (b := 27) (by omega) (by omega)) q⟩
  | succ m ih =>
    intro i fuel hi h1i hf hj
    obtain ⟨g, rfl⟩ : ∃ g, fuel = g + 1 := ⟨fuel - 1, by omega⟩
    have ⟨hv, hv2⟩ := hu i h1i (by omega)
    have hc := cnt_le hn i
    unfold P_X9_missing_L2
    rw [nI_clamp (by omega), hv, hco i (by omega), ← nI_succ]
    refine ⟨fun q => absurd q (nI_nlt (a := 26) (by omega) (by omega)), fun _ => ⟨nI_in (by omega) (by omega), nI_in (by omega) (by omega), fun q => ?_, fun q => ?_⟩⟩
    · have q' := (nle (by omega) (by omega)).mp q
      refine ih (i + 1) g (by omega) (by omega) (by omega) (fun j a b => ?_)
      by_cases e : j = i
      · rw [e]; exact q'
      · exact hj j a (by omega)
    · have q' : ¬ cnt n i ≤ u i := fun z => q ((nle (by omega) (by omega)).mpr z)
      exact h1 i ⟨h1i, by omega, by omega, hj⟩
theorem p_xmissing {n : Nat} (hn : n < 32 ^ 12) {v co : Nat → Int32} {u : Nat → Nat} (hu : isU v u) (hco : ∀ l : Nat, l ≤ 26 → co l = nI (cnt n l)) {v0 v1 v2 v3 v4 v5 : Int32} {post : Int32 → Prop} (h1 : ∀ l, missAt n u l → post (nI l)) (h0 : okU u n (wlen n) → post (-1)) : P_X9_missing post v0 v1 v2 v3 v4 v5 v co :=
  p_xmisL hn hu hco (K23 := fun (x1 : Int32) => post x1) h1 h0 26 1 FU rfl (Nat.le_refl _) (FU_s _ (by omega)) (fun j a b => absurd a (by omega))
theorem missAt_no {n l : Nat} {u : Nat → Nat} (h : missAt n u l) : ¬ okU u n (wlen n) := fun z => by
  have := z l h.1 h.2.1
  have := h.2.2.1
  have e : cntU n (wlen n) l = cnt n l := rfl
  omega
theorem missAt_m1 {n l : Nat} {u : Nat → Nat} (h : missAt n u l) : nI l ≠ -1 := fun e => by
  have := h.2.1
  have := congrArg Int32.toInt e
  rw [nI_toInt (by omega)] at this
  have e2 : (-1 : Int32).toInt = -1 := by decide
  omega
def clr1 (v : Nat → Int32) (i : Nat) : Nat → Int32 := fun l => if 1 ≤ l ∧ l < i then 0 else v l
theorem p_xciL {z : Int32} {v : Nat → Int32} {K : (Nat → Int32) → Prop} (h : K (clr1 v 27)) : ∀ m i fuel : Nat, i + m = 27 → 1 ≤ i → m < fuel → P_X9_cost_L4 z K fuel (nI i) (clr1 v i) := by
  intro m
  induction m with
  | zero =>
    intro i fuel hi h1 hf
    obtain ⟨g, rfl⟩ : ∃ g, fuel = g + 1 := ⟨fuel - 1, by omega⟩
    have e : i = 27 := by omega
    subst e
    unfold P_X9_cost_L4
    exact ⟨fun _ => h, fun q => absurd (nI_lt (a := 26) (b := 27) (by omega) (by omega)) q⟩
  | succ m ih =>
    intro i fuel hi h1 hf
    obtain ⟨g, rfl⟩ : ∃ g, fuel = g + 1 := ⟨fuel - 1, by omega⟩
    unfold P_X9_cost_L4
    refine ⟨fun q => absurd q (nI_nlt (a := 26) (by omega) (by omega)), fun _ => ⟨nI_in (by omega) (by omega), ?_⟩⟩
    rw [nI_clamp (by omega), ← nI_succ]
    have e : upd (clr1 v i) i 0 = clr1 v (i + 1) := by
      funext l
      unfold upd clr1
      by_cases hx : l = i
      · rw [if_pos hx, if_pos (by omega)]
      · rw [if_neg hx]
        by_cases h2 : 1 ≤ l ∧ l < i
        · rw [if_pos h2, if_pos (by omega)]
        · rw [if_neg h2, if_neg (by omega)]
    rw [e]
    exact ih (i + 1) g (by omega) (by omega) (by omega)
theorem p_xcoL {n : Nat} (hw : isW n) {v6 v7 v8 : Nat → Int32} {u b : Nat → Nat} (hu : isU v6 u) (hb : isB v7 b) (hsp : ∀ k : Nat, k < wlen n → v8 k = nI (dg n (wlen n - 1 - k))) (ho : okU u n (wlen n)) {v0 v1 v2 v3 v5 : Int32} {K : Int32 → (Nat → Int32) → Prop} (h : ∀ w, K (nI (sumN n u b (wlen n))) w) :
    ∀ (m k fuel : Nat) (v9 : Nat → Int32), k + m = wlen n → m < fuel → (∀ l : Nat, 1 ≤ l → l ≤ 26 → v9 l = nI (cntR n (wlen n) k l)) → P_X9_cost_L25 v0 v1 v2 v3 (nI (wlen n)) v5 v6 v7 v8 K fuel (nI (sumN n u b k)) (nI k) v9 := by
  have hl := isW_len hw
  intro m
  induction m with
  | zero =>
    intro k fuel v9 hk hf h9
    obtain ⟨g, rfl⟩ : ∃ g, fuel = g + 1 := ⟨fuel - 1, by omega⟩
    have e : k = wlen n := by omega
    subst e
    unfold P_X9_cost_L25
    exact ⟨fun _ => h v9, fun q => absurd (nI_le (Nat.le_refl _) (by omega)) q⟩
  | succ m ih =>
    intro k fuel v9 hk hf h9
    obtain ⟨g, rfl⟩ : ∃ g, fuel = g + 1 := ⟨fuel - 1, by omega⟩
    have hd := hw.2.2 (wlen n - 1 - k) (by omega)
    have hc := cntR_lt (n := n) (k := k) (by omega)
    have hcu : cnt n (dg n (wlen n - 1 - k)) ≤ u (dg n (wlen n - 1 - k)) := ho _ hd.1 hd.2
    have ⟨hv, hv2⟩ := hu _ hd.1 hd.2
    have hb1 := (hb _ hd.1 hd.2).1
    have hb2 := (hb _ hd.1 hd.2).2.2
    unfold P_X9_cost_L25
    rw [nI_clamp (show k < 2 ^ 31 by omega), hsp k (by omega)]
    refine ⟨fun q => absurd q (nI_ge (by omega) (by omega)), fun _ => ⟨nI_in (by omega) (by omega), fun y hy => ?_⟩⟩
    rw [hy, dg_cl, hv, h9 _ hd.1 hd.2, nI_sub (by omega)]
    refine ⟨nI_in (by omega) (by omega), nI_in (by omega) (by omega), p_xprice (by omega) (by omega) hb1 hb2 (p_xweight (by omega) (fun y5 hy5 => ⟨nI_in (by omega) (by omega), nI_in (by omega) (by omega), ?_⟩))⟩
    rw [nI_mul, nI_add] at hy5
    rw [hy5, ← nI_succ, ← nI_succ]
    refine ih (k + 1) g _ (by omega) (by omega) (fun l a c => ?_)
    unfold upd
    show _ = nI (cntR n (wlen n) k l + (if dg n (wlen n - 1 - k) = l then 1 else 0))
    by_cases e : l = dg n (wlen n - 1 - k)
    · rw [if_pos e, if_pos e.symm, ← e]
    · rw [if_neg e, if_neg (fun q => e q.symm), Nat.add_zero]
      exact h9 l a c
theorem p_xcost {n : Nat} (hw : isW n) {v6 v7 v8 v9 : Nat → Int32} {u b : Nat → Nat} (hu : isU v6 u) (hb : isB v7 b) (hsp : ∀ k : Nat, k < wlen n → v8 k = nI (dg n (wlen n - 1 - k))) (ho : okU u n (wlen n)) {v0 v1 v2 v3 v5 : Int32} {post : Int32 → (Nat → Int32) → Prop} (h : ∀ w, post (nI (costN n u b)) w) : P_X9_cost post v0 v1 v2 v3 (nI (wlen n)) v5 v6 v7 v8 v9 := by
  have hl := isW_len hw
  have hs := sumN_le hw (u := u) (fun l a c => (hb l a c).2.2) (wlen n) (Nat.le_refl _)
  have hfin := cost_fin (x := sumN n u b (wlen n)) (by omega)
  have key2 := p_xcoL hw hu hb hsp ho (v0 := v0) (v1 := v1) (v2 := v2) (v3 := v3) (v5 := v5) (K := fun (x6 : Int32) (w7 : Nat → Int32) => ((x6 - x6 / 16 * 16) = 0 → post ((x6 / 16) + 0) w7) ∧ (¬ ((x6 - x6 / 16 * 16) = 0) → post ((x6 / 16) + 1) w7)) (fun w => ⟨fun z => by rw [hfin.2.1 z]; exact h w, fun z => by rw [hfin.2.2 z]; exact h w⟩) (wlen n) 0 FU (clr1 v9 27) (Nat.zero_add _) (FU_s _ (by omega)) (fun l a c => by
    show (if 1 ≤ l ∧ l < 27 then 0 else v9 l) = nI 0
    rw [if_pos (by omega), nI_0])
  have e0 : nI (sumN n u b 0) = 0 := nI_0
  rw [e0, nI_0] at key2
  have key := p_xciL (z := 0) (v := v9) (K := fun (w1 : Nat → Int32) => P_X9_cost_L25 v0 v1 v2 v3 (nI (wlen n)) v5 v6 v7 v8 (fun (x6 : Int32) (w7 : Nat → Int32) => ((x6 - x6 / 16 * 16) = 0 → post ((x6 / 16) + 0) w7) ∧ (¬ ((x6 - x6 / 16 * 16) = 0) → post ((x6 / 16) + 1) w7)) FU 0 0 w1) key2 26 1 FU rfl (Nat.le_refl _) (FU_s _ (by omega))
  have e1 : clr1 v9 1 = v9 := by
    funext l
    unfold clr1
    rw [if_neg (by omega)]
  rw [e1] at key
  exact key
theorem p_xplL {v1 : Int32} {v6 : Nat → Int64} {M : List Nat} (hr : rowIs v1 v6 M) (hM : ∀ m ∈ M, isW m) {n : Nat} (hw : isW n) {K21 : Int32 → Prop} {K29 : Prop} (h1 : ∀ k : Nat, M[k]? = some n → K21 (nI k)) (h0 : n ∉ M → K29) :
    ∀ (T : List Nat) (i fuel : Nat), M.drop i = T → i ≤ M.length → T.length < fuel → n ∉ M.take i → P_X9_placeOf_L2 (lN n) v1 v6 K21 K29 fuel (nI i) := by
  obtain ⟨rfl, h60, hf6⟩ := hr
  intro T
  induction T with
  | nil =>
    intro i fuel hd hi hf hn
    obtain ⟨g, rfl⟩ : ∃ g, fuel = g + 1 := ⟨fuel - 1, by simp at hf; omega⟩
    unfold P_X9_placeOf_L2
    refine ⟨fun _ => h0 ?_, fun z => absurd (nI_le (drop_nil hd) (by omega)) z⟩
    rwa [List.take_of_length_le (drop_nil hd)] at hn
  | cons m T ih =>
    intro i fuel hd hi hf hn
    obtain ⟨g, rfl⟩ : ∃ g, fuel = g + 1 := ⟨fuel - 1, by simp at hf; omega⟩
    obtain ⟨hai, hd2⟩ := drop_at hd
    have hil := (List.getElem?_eq_some_iff.mp hai).1
    have hwm := hM m (List.mem_of_getElem? hai)
    have hf2 : T.length < g := by simp at hf; omega
    have a1 := hwm.2.1
    have a2 := hw.2.1
    unfold P_X9_placeOf_L2
    rw [nI_clamp (by omega), hf6 i m hai, ← nI_succ]
    refine ⟨fun z => absurd z (nI_ge hil (by omega)), fun _ => ⟨nI_in (by omega) (by omega), fun z => h1 i ?_, fun z => ih (i + 1) g hd2 (by omega) hf2 ?_⟩⟩
    · have z' := (pk_lEQ (by omega) (by omega)).mp z
      rw [hai, z']
    · rw [List.take_add_one, hai]
      intro hx
      rcases List.mem_append.mp hx with hx | hx
      · exact hn hx
      · have := List.mem_singleton.mp hx
        exact z (by rw [this])
theorem p_xplace {v1 : Int32} {v6 : Nat → Int64} {M : List Nat} (hr : rowIs v1 v6 M) (hM : ∀ m ∈ M, isW m) {n : Nat} (hw : isW n) {v0 v2 v3 v4 v5 : Int32} {post : Int32 → Prop} (h1 : ∀ k : Nat, k < 60 → M[k]? = some n → post (nI k)) (h0 : n ∉ M → post (-1)) : P_X9_placeOf post (lN n) v0 v1 v2 v3 v4 v5 v6 := by
  have h60 := hr.2.1
  have key := p_xplL hr hM hw (K21 := fun (x1 : Int32) => post x1) (fun k hk => h1 k (by have := (List.getElem?_eq_some_iff.mp hk).1; omega) hk) h0 M 0 FU rfl (Nat.zero_le _) (FU_s _ (by omega)) (fun z => by simp at z)
  rw [nI_0] at key
  exact key
theorem nI_m1 {k : Nat} (h : k < 2 ^ 31) : nI k ≠ -1 := fun e => by
  have := congrArg Int32.toInt e
  rw [nI_toInt h] at this
  have e2 : (-1 : Int32).toInt = -1 := by decide
  omega
