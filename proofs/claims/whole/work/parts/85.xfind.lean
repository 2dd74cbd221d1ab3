/-! the model tries all plans, in order -/
theorem seq1 : ∀ F : List Nat, seqP 1 F = F.map (fun x => [x])
  | [] => rfl
  | x :: T => by
    show [[x]] ++ seqP 1 T = _
    rw [seq1 T]
    rfl
theorem seq_s (p x : Nat) (T : List Nat) : seqP (p + 1) (x :: T) = (seqP p (x :: T)).map (fun c => x :: c) ++ seqP (p + 1) T := rfl
theorem run_ge {n : Nat} (s : List Nat × Nat) (L : List (List Nat)) : runP n s L = runP n s L := rfl
section XF
variable {v1 : Int32} {v6 : Nat → Int64} {M : List Nat}
theorem p_xL22 (hr : rowIs v1 v6 M) (hM : ∀ m ∈ M, isW m) {n : Nat} (hw : isW n) {co : Nat → Int32} (hco : ∀ l : Nat, l ≤ 26 → co l = nI (cnt n l)) {F : List Nat} (hF : ∀ m ∈ F, isW m) (h60 : F.length ≤ 60) {v10 : Nat → Int32} (hO : ordF M F v10) {z3 v0 v2 v3 : Int32} {K : Int32 → Int32 → (Nat → Int32) → (Nat → Int32) → Prop} :
    ∀ (T : List Nat) (i fuel : Nat) (s : List Nat × Nat) (v5 : Int32) (v9 v11 : Nat → Int32), F.drop i = T → i ≤ F.length → T.length < fuel → s.2 ≤ 36 → v5 = nI s.1.length → plaF M s.1 v11 →
    (∀ v5' v9' v11', v5' = nI (runP n s (T.map (fun x => [x]))).1.length → plaF M (runP n s (T.map (fun x => [x]))).1 v11' → (runP n s (T.map (fun x => [x]))).2 ≤ 36 → K (nI (runP n s (T.map (fun x => [x]))).2) v5' v9' v11') →
    P_X9_findPlan_L22 z3 (nI F.length)  v0 v1 v2 v3 (nI (wlen n)) v6 co v10 K fuel (nI s.2) (nI i) v5 v9 v11 := by
  intro T
  induction T with
  | nil =>
    intro i fuel s v5 v9 v11 hd hi hf hs h5 h11 h
    obtain ⟨g, rfl⟩ : ∃ g, fuel = g + 1 := ⟨fuel - 1, by simp at hf; omega⟩
    unfold P_X9_findPlan_L22
    exact ⟨fun _ => h v5 v9 v11 h5 h11 hs, fun z => absurd (nI_le (drop_nil hd) (by omega)) z⟩
  | cons x T ih =>
    intro i fuel s v5 v9 v11 hd hi hf hs h5 h11 h
    obtain ⟨g, rfl⟩ : ∃ g, fuel = g + 1 := ⟨fuel - 1, by simp at hf; omega⟩
    obtain ⟨hai, hd2⟩ := drop_at hd
    have hil := (List.getElem?_eq_some_iff.mp hai).1
    have hxF := List.mem_of_getElem? hai
    have hxl := isW_len (hF x hxF)
    have hf2 : T.length < g := by simp at hf; omega
    obtain ⟨jx, ex, mx⟩ := hO i x hai
    have jx60 : jx < 60 := by have := (List.getElem?_eq_some_iff.mp mx).1; have := hr.2.1; omega
    unfold P_X9_findPlan_L22
    rw [← nI_succ]
    refine ⟨fun z => absurd z (nI_ge hil (by omega)), fun _ => ⟨nI_in (by omega) (by omega), ?_⟩⟩
    refine p_xkeep hr hM hw hco (j1 := jx) (w1 := x) (L2 := []) (L3 := []) (by rw [nI_clamp (show i < 2 ^ 31 by omega)]; exact ex) mx (Or.inl ⟨rfl, rfl⟩) (Or.inl ⟨rfl, rfl⟩) (fun _ => rfl) hs h5 h11 (fun v5' v8' v9' g5 g9 => ?_)
    refine ih (i + 1) g _ v5' v8' v9' hd2 (by omega) hf2 (run_36 [[x]] s hs (fun c hc => ?_)) g5 g9 h
    rw [List.mem_singleton.mp hc]
    show wlen x + 0 ≤ 36
    omega

theorem p_xL71 (hr : rowIs v1 v6 M) (hM : ∀ m ∈ M, isW m) {n : Nat} (hw : isW n) {co : Nat → Int32} (hco : ∀ l : Nat, l ≤ 26 → co l = nI (cnt n l)) {F : List Nat} (hF : ∀ m ∈ F, isW m) (h60 : F.length ≤ 60) {v10 : Nat → Int32} (hO : ordF M F v10) {z3 v0 v2 v3 : Int32} {i0 x0 j0 : Nat} (hx0 : F[i0]? = some x0) (e0 : v10 i0 = nI j0) (m0 : M[j0]? = some x0) {K : Int32 → Int32 → (Nat → Int32) → (Nat → Int32) → Prop} :
    ∀ (T : List Nat) (i fuel : Nat) (s : List Nat × Nat) (v5 : Int32) (v9 v11 : Nat → Int32), F.drop i = T → i ≤ F.length → T.length < fuel → s.2 ≤ 36 → v5 = nI s.1.length → plaF M s.1 v11 →
    (∀ v5' v9' v11', v5' = nI (runP n s (T.map (fun y => [x0, y]))).1.length → plaF M (runP n s (T.map (fun y => [x0, y]))).1 v11' → (runP n s (T.map (fun y => [x0, y]))).2 ≤ 36 → K (nI (runP n s (T.map (fun y => [x0, y]))).2) v5' v9' v11') →
    P_X9_findPlan_L71 z3 (nI F.length) (nI i0) v0 v1 v2 v3 (nI (wlen n)) v6 co v10 K fuel (nI s.2) (nI i) v5 v9 v11 := by
  have i0l := (List.getElem?_eq_some_iff.mp hx0).1
  have x0l := isW_len (hF x0 (List.mem_of_getElem? hx0))
  intro T
  induction T with
  | nil =>
    intro i fuel s v5 v9 v11 hd hi hf hs h5 h11 h
    obtain ⟨g, rfl⟩ : ∃ g, fuel = g + 1 := ⟨fuel - 1, by simp at hf; omega⟩
    unfold P_X9_findPlan_L71
    exact ⟨fun _ => h v5 v9 v11 h5 h11 hs, fun z => absurd (nI_le (drop_nil hd) (by omega)) z⟩
  | cons x T ih =>
    intro i fuel s v5 v9 v11 hd hi hf hs h5 h11 h
    obtain ⟨g, rfl⟩ : ∃ g, fuel = g + 1 := ⟨fuel - 1, by simp at hf; omega⟩
    obtain ⟨hai, hd2⟩ := drop_at hd
    have hil := (List.getElem?_eq_some_iff.mp hai).1
    have hxF := List.mem_of_getElem? hai
    have hxl := isW_len (hF x hxF)
    have hf2 : T.length < g := by simp at hf; omega
    obtain ⟨jx, ex, mx⟩ := hO i x hai
    have jx60 : jx < 60 := by have := (List.getElem?_eq_some_iff.mp mx).1; have := hr.2.1; omega
    unfold P_X9_findPlan_L71
    rw [← nI_succ]
    refine ⟨fun z => absurd z (nI_ge hil (by omega)), fun _ => ⟨nI_in (by omega) (by omega), nI_in (by omega) (by omega), ?_⟩⟩
    refine p_xkeep hr hM hw hco (j1 := j0) (w1 := x0) (L2 := [x]) (L3 := []) (by rw [nI_clamp (show i0 < 2 ^ 31 by omega)]; exact e0) m0 (Or.inr ⟨jx, x, by rw [nI_clamp (show i < 2 ^ 31 by omega)]; exact ex, jx60, mx, rfl⟩) (Or.inl ⟨rfl, rfl⟩) (fun q => absurd q (by simp)) hs h5 h11 (fun v5' v8' v9' g5 g9 => ?_)
    refine ih (i + 1) g _ v5' v8' v9' hd2 (by omega) hf2 (run_36 [[x0, x]] s hs (fun c hc => ?_)) g5 g9 h
    rw [List.mem_singleton.mp hc]
    show wlen x0 + (wlen x + 0) ≤ 36
    omega

theorem p_xL143 (hr : rowIs v1 v6 M) (hM : ∀ m ∈ M, isW m) {n : Nat} (hw : isW n) {co : Nat → Int32} (hco : ∀ l : Nat, l ≤ 26 → co l = nI (cnt n l)) {F : List Nat} (hF : ∀ m ∈ F, isW m) (h60 : F.length ≤ 60) {v10 : Nat → Int32} (hO : ordF M F v10) {z3 v0 v2 v3 : Int32} {i0 x0 j0 i1 x1 j1 : Nat} (hx0 : F[i0]? = some x0) (e0 : v10 i0 = nI j0) (m0 : M[j0]? = some x0) (hx1 : F[i1]? = some x1) (e1 : v10 i1 = nI j1) (m1 : M[j1]? = some x1) {K : Int32 → Int32 → (Nat → Int32) → (Nat → Int32) → Prop} :
    ∀ (T : List Nat) (i fuel : Nat) (s : List Nat × Nat) (v5 : Int32) (v9 v11 : Nat → Int32), F.drop i = T → i ≤ F.length → T.length < fuel → s.2 ≤ 36 → v5 = nI s.1.length → plaF M s.1 v11 →
    (∀ v5' v9' v11', v5' = nI (runP n s (T.map (fun y => [x0, x1, y]))).1.length → plaF M (runP n s (T.map (fun y => [x0, x1, y]))).1 v11' → (runP n s (T.map (fun y => [x0, x1, y]))).2 ≤ 36 → K (nI (runP n s (T.map (fun y => [x0, x1, y]))).2) v5' v9' v11') →
    P_X9_findPlan_L143 z3 (nI F.length) (nI i0) (nI i1) v0 v1 v2 v3 (nI (wlen n)) v6 co v10 K fuel (nI s.2) (nI i) v5 v9 v11 := by
  have i0l := (List.getElem?_eq_some_iff.mp hx0).1
  have x0l := isW_len (hF x0 (List.mem_of_getElem? hx0))
  have i1l := (List.getElem?_eq_some_iff.mp hx1).1
  have x1l := isW_len (hF x1 (List.mem_of_getElem? hx1))
  have j160 : j1 < 60 := by have := (List.getElem?_eq_some_iff.mp m1).1; have := hr.2.1; omega
  intro T
  induction T with
  | nil =>
    intro i fuel s v5 v9 v11 hd hi hf hs h5 h11 h
    obtain ⟨g, rfl⟩ : ∃ g, fuel = g + 1 := ⟨fuel - 1, by simp at hf; omega⟩
    unfold P_X9_findPlan_L143
    exact ⟨fun _ => h v5 v9 v11 h5 h11 hs, fun z => absurd (nI_le (drop_nil hd) (by omega)) z⟩
  | cons x T ih =>
    intro i fuel s v5 v9 v11 hd hi hf hs h5 h11 h
    obtain ⟨g, rfl⟩ : ∃ g, fuel = g + 1 := ⟨fuel - 1, by simp at hf; omega⟩
    obtain ⟨hai, hd2⟩ := drop_at hd
    have hil := (List.getElem?_eq_some_iff.mp hai).1
    have hxF := List.mem_of_getElem? hai
    have hxl := isW_len (hF x hxF)
    have hf2 : T.length < g := by simp at hf; omega
    obtain ⟨jx, ex, mx⟩ := hO i x hai
    have jx60 : jx < 60 := by have := (List.getElem?_eq_some_iff.mp mx).1; have := hr.2.1; omega
    unfold P_X9_findPlan_L143
    rw [← nI_succ]
    refine ⟨fun z => absurd z (nI_ge hil (by omega)), fun _ => ⟨nI_in (by omega) (by omega), nI_in (by omega) (by omega), nI_in (by omega) (by omega), ?_⟩⟩
    refine p_xkeep hr hM hw hco (j1 := j0) (w1 := x0) (L2 := [x1]) (L3 := [x]) (by rw [nI_clamp (show i0 < 2 ^ 31 by omega)]; exact e0) m0 (Or.inr ⟨j1, x1, by rw [nI_clamp (show i1 < 2 ^ 31 by omega)]; exact e1, j160, m1, rfl⟩) (Or.inr ⟨jx, x, by rw [nI_clamp (show i < 2 ^ 31 by omega)]; exact ex, jx60, mx, rfl⟩) (fun q => absurd q (by simp)) hs h5 h11 (fun v5' v8' v9' g5 g9 => ?_)
    refine ih (i + 1) g _ v5' v8' v9' hd2 (by omega) hf2 (run_36 [[x0, x1, x]] s hs (fun c hc => ?_)) g5 g9 h
    rw [List.mem_singleton.mp hc]
    show wlen x0 + (wlen x1 + (wlen x + 0)) ≤ 36
    omega

theorem p_xL55 (hr : rowIs v1 v6 M) (hM : ∀ m ∈ M, isW m) {n : Nat} (hw : isW n) {co : Nat → Int32} (hco : ∀ l : Nat, l ≤ 26 → co l = nI (cnt n l)) {F : List Nat} (hF : ∀ m ∈ F, isW m) (h60 : F.length ≤ 60) {v10 : Nat → Int32} (hO : ordF M F v10) {z3 v0 v2 v3 : Int32} (hz : ¬ z3 ≤ 1) {K : Int32 → Int32 → (Nat → Int32) → (Nat → Int32) → Prop} :
    ∀ (T : List Nat) (i fuel : Nat) (s : List Nat × Nat) (v5 : Int32) (v9 v11 : Nat → Int32), F.drop i = T → i ≤ F.length → T.length < fuel → s.2 ≤ 36 → v5 = nI s.1.length → plaF M s.1 v11 →
    (∀ v5' v9' v11', v5' = nI (runP n s (tjP (seqP 1) T)).1.length → plaF M (runP n s (tjP (seqP 1) T)).1 v11' → (runP n s (tjP (seqP 1) T)).2 ≤ 36 → K (nI (runP n s (tjP (seqP 1) T)).2) v5' v9' v11') →
    P_X9_findPlan_L55 z3 (nI F.length)  v0 v1 v2 v3 (nI (wlen n)) v6 co v10 K fuel (nI s.2) (nI i) v5 v9 v11 := by
  intro T
  induction T with
  | nil =>
    intro i fuel s v5 v9 v11 hd hi hf hs h5 h11 h
    obtain ⟨g, rfl⟩ : ∃ g, fuel = g + 1 := ⟨fuel - 1, by simp at hf; omega⟩
    unfold P_X9_findPlan_L55
    exact ⟨fun _ => h v5 v9 v11 h5 h11 hs, fun z => absurd (nI_le (drop_nil hd) (by omega)) z⟩
  | cons x T ih =>
    intro i fuel s v5 v9 v11 hd hi hf hs h5 h11 h
    obtain ⟨g, rfl⟩ : ∃ g, fuel = g + 1 := ⟨fuel - 1, by simp at hf; omega⟩
    obtain ⟨hai, hd2⟩ := drop_at hd
    have hil := (List.getElem?_eq_some_iff.mp hai).1
    have hxF := List.mem_of_getElem? hai
    have hxl := isW_len (hF x hxF)
    have hf2 : T.length < g := by simp at hf; omega
    obtain ⟨jx, ex, mx⟩ := hO i x hai
    have jx60 : jx < 60 := by have := (List.getElem?_eq_some_iff.mp mx).1; have := hr.2.1; omega
    unfold P_X9_findPlan_L55
    rw [← nI_succ]
    have eb : tjP (seqP 1) (x :: T) = (x :: T).map (fun y => [x, y]) ++ tjP (seqP 1) T := by
      show (seqP 1 (x :: T)).map (fun c => x :: c) ++ _ = _
      rw [seq1, List.map_map]
      rfl
    rw [eb, run_app] at h
    refine ⟨fun z => absurd z (nI_ge hil (by omega)), fun _ => ⟨fun z => absurd z hz, fun _ => ?_⟩⟩
    exact p_xL71 hr hM hw hco hF h60 hO hai ex mx (x :: T) i FU s v5 v9 v11 hd hi (FU_s _ (by rw [← hd, List.length_drop]; omega)) hs h5 h11 (fun v5' v9' v11' g5 g11 gs => ih (i + 1) g _ v5' v9' v11' hd2 (by omega) hf2 gs g5 g11 h)

theorem p_xL132 (hr : rowIs v1 v6 M) (hM : ∀ m ∈ M, isW m) {n : Nat} (hw : isW n) {co : Nat → Int32} (hco : ∀ l : Nat, l ≤ 26 → co l = nI (cnt n l)) {F : List Nat} (hF : ∀ m ∈ F, isW m) (h60 : F.length ≤ 60) {v10 : Nat → Int32} (hO : ordF M F v10) {z3 v0 v2 v3 : Int32} {i0 x0 j0 : Nat} (hx0 : F[i0]? = some x0) (e0 : v10 i0 = nI j0) (m0 : M[j0]? = some x0) {K : Int32 → Int32 → (Nat → Int32) → (Nat → Int32) → Prop} :
    ∀ (T : List Nat) (i fuel : Nat) (s : List Nat × Nat) (v5 : Int32) (v9 v11 : Nat → Int32), F.drop i = T → i ≤ F.length → T.length < fuel → s.2 ≤ 36 → v5 = nI s.1.length → plaF M s.1 v11 →
    (∀ v5' v9' v11', v5' = nI (runP n s ((tjP (seqP 1) T).map (fun c => x0 :: c))).1.length → plaF M (runP n s ((tjP (seqP 1) T).map (fun c => x0 :: c))).1 v11' → (runP n s ((tjP (seqP 1) T).map (fun c => x0 :: c))).2 ≤ 36 → K (nI (runP n s ((tjP (seqP 1) T).map (fun c => x0 :: c))).2) v5' v9' v11') →
    P_X9_findPlan_L132 z3 (nI F.length) (nI i0) v0 v1 v2 v3 (nI (wlen n)) v6 co v10 K fuel (nI s.2) (nI i) v5 v9 v11 := by
  intro T
  induction T with
  | nil =>
    intro i fuel s v5 v9 v11 hd hi hf hs h5 h11 h
    obtain ⟨g, rfl⟩ : ∃ g, fuel = g + 1 := ⟨fuel - 1, by simp at hf; omega⟩
    unfold P_X9_findPlan_L132
    exact ⟨fun _ => h v5 v9 v11 h5 h11 hs, fun z => absurd (nI_le (drop_nil hd) (by omega)) z⟩
  | cons x T ih =>
    intro i fuel s v5 v9 v11 hd hi hf hs h5 h11 h
    obtain ⟨g, rfl⟩ : ∃ g, fuel = g + 1 := ⟨fuel - 1, by simp at hf; omega⟩
    obtain ⟨hai, hd2⟩ := drop_at hd
    have hil := (List.getElem?_eq_some_iff.mp hai).1
    have hxF := List.mem_of_getElem? hai
    have hxl := isW_len (hF x hxF)
    have hf2 : T.length < g := by simp at hf; omega
    obtain ⟨jx, ex, mx⟩ := hO i x hai
    have jx60 : jx < 60 := by have := (List.getElem?_eq_some_iff.mp mx).1; have := hr.2.1; omega
    unfold P_X9_findPlan_L132
    rw [← nI_succ]
    have eb : (tjP (seqP 1) (x :: T)).map (fun c => x0 :: c) = (x :: T).map (fun y => [x0, x, y]) ++ (tjP (seqP 1) T).map (fun c => x0 :: c) := by
      show ((seqP 1 (x :: T)).map (fun c => x :: c) ++ _).map _ = _
      rw [seq1, List.map_append, List.map_map, List.map_map]
      rfl
    rw [eb, run_app] at h
    refine ⟨fun z => absurd z (nI_ge hil (by omega)), fun _ => ?_⟩
    exact p_xL143 hr hM hw hco hF h60 hO hx0 e0 m0 hai ex mx (x :: T) i FU s v5 v9 v11 hd hi (FU_s _ (by rw [← hd, List.length_drop]; omega)) hs h5 h11 (fun v5' v9' v11' g5 g11 gs => ih (i + 1) g _ v5' v9' v11' hd2 (by omega) hf2 gs g5 g11 h)

theorem p_xL116 (hr : rowIs v1 v6 M) (hM : ∀ m ∈ M, isW m) {n : Nat} (hw : isW n) {co : Nat → Int32} (hco : ∀ l : Nat, l ≤ 26 → co l = nI (cnt n l)) {F : List Nat} (hF : ∀ m ∈ F, isW m) (h60 : F.length ≤ 60) {v10 : Nat → Int32} (hO : ordF M F v10) {z3 v0 v2 v3 : Int32} (hz : ¬ z3 ≤ 2) {K : Int32 → Int32 → (Nat → Int32) → (Nat → Int32) → Prop} :
    ∀ (T : List Nat) (i fuel : Nat) (s : List Nat × Nat) (v5 : Int32) (v9 v11 : Nat → Int32), F.drop i = T → i ≤ F.length → T.length < fuel → s.2 ≤ 36 → v5 = nI s.1.length → plaF M s.1 v11 →
    (∀ v5' v9' v11', v5' = nI (runP n s (tjP (seqP 2) T)).1.length → plaF M (runP n s (tjP (seqP 2) T)).1 v11' → (runP n s (tjP (seqP 2) T)).2 ≤ 36 → K (nI (runP n s (tjP (seqP 2) T)).2) v5' v9' v11') →
    P_X9_findPlan_L116 z3 (nI F.length)  v0 v1 v2 v3 (nI (wlen n)) v6 co v10 K fuel (nI s.2) (nI i) v5 v9 v11 := by
  intro T
  induction T with
  | nil =>
    intro i fuel s v5 v9 v11 hd hi hf hs h5 h11 h
    obtain ⟨g, rfl⟩ : ∃ g, fuel = g + 1 := ⟨fuel - 1, by simp at hf; omega⟩
    unfold P_X9_findPlan_L116
    exact ⟨fun _ => h v5 v9 v11 h5 h11 hs, fun z => absurd (nI_le (drop_nil hd) (by omega)) z⟩
  | cons x T ih =>
    intro i fuel s v5 v9 v11 hd hi hf hs h5 h11 h
    obtain ⟨g, rfl⟩ : ∃ g, fuel = g + 1 := ⟨fuel - 1, by simp at hf; omega⟩
    obtain ⟨hai, hd2⟩ := drop_at hd
    have hil := (List.getElem?_eq_some_iff.mp hai).1
    have hxF := List.mem_of_getElem? hai
    have hxl := isW_len (hF x hxF)
    have hf2 : T.length < g := by simp at hf; omega
    obtain ⟨jx, ex, mx⟩ := hO i x hai
    have jx60 : jx < 60 := by have := (List.getElem?_eq_some_iff.mp mx).1; have := hr.2.1; omega
    unfold P_X9_findPlan_L116
    rw [← nI_succ]
    have eb : tjP (seqP 2) (x :: T) = (tjP (seqP 1) (x :: T)).map (fun c => x :: c) ++ tjP (seqP 2) T := rfl
    rw [eb, run_app] at h
    refine ⟨fun z => absurd z (nI_ge hil (by omega)), fun _ => ⟨fun z => absurd z hz, fun _ => ?_⟩⟩
    exact p_xL132 hr hM hw hco hF h60 hO hai ex mx (x :: T) i FU s v5 v9 v11 hd hi (FU_s _ (by rw [← hd, List.length_drop]; omega)) hs h5 h11 (fun v5' v9' v11' g5 g11 gs => ih (i + 1) g _ v5' v9' v11' hd2 (by omega) hf2 gs g5 g11 h)

/-- with fewer words allowed a loop ends at once -/
theorem p_xL55n {v10 co : Nat → Int32} {z3 z4 v0 v2 v3 v4 v5 : Int32} {a : Int32} {v9 v11 : Nat → Int32} (hz : z3 ≤ 1) {K : Int32 → Int32 → (Nat → Int32) → (Nat → Int32) → Prop} (h : K a v5 v9 v11) (fuel : Nat) (hf : 0 < fuel) (i : Int32) : P_X9_findPlan_L55 z3 z4 v0 v1 v2 v3 v4 v6 co v10 K fuel a i v5 v9 v11 := by
  obtain ⟨g, rfl⟩ : ∃ g, fuel = g + 1 := ⟨fuel - 1, by omega⟩
  unfold P_X9_findPlan_L55
  exact ⟨fun _ => h, fun _ => ⟨fun _ => h, fun q => absurd hz q⟩⟩
theorem p_xL116n {v10 co : Nat → Int32} {z3 z4 v0 v2 v3 v4 v5 : Int32} {a : Int32} {v9 v11 : Nat → Int32} (hz : z3 ≤ 2) {K : Int32 → Int32 → (Nat → Int32) → (Nat → Int32) → Prop} (h : K a v5 v9 v11) (fuel : Nat) (hf : 0 < fuel) (i : Int32) : P_X9_findPlan_L116 z3 z4 v0 v1 v2 v3 v4 v6 co v10 K fuel a i v5 v9 v11 := by
  obtain ⟨g, rfl⟩ : ∃ g, fuel = g + 1 := ⟨fuel - 1, by omega⟩
  unfold P_X9_findPlan_L116
  exact ⟨fun _ => h, fun _ => ⟨fun _ => h, fun q => absurd hz q⟩⟩
theorem p_xplan {S : List Nat} (hr : rowIs v1 v6 M) (hd : dRel S M) {n : Nat} (hw : isW n) {k : Nat} (h1 : 1 ≤ k) (h3 : k ≤ 3) {v0 v2 v3 v4 v5 : Int32} {v7 v8 v9 v10 v11 : Nat → Int32} {post : Int32 → Int32 → Int32 → (Nat → Int32) → (Nat → Int32) → (Nat → Int32) → (Nat → Int32) → (Nat → Int32) → Prop}
    (h : ∀ sp co w ord pl, spelIs n sp co → plaF M (outP n k (S.filter (fitsB n))).1 pl → post (nI (wlen n - (outP n k (S.filter (fitsB n))).2)) (nI (wlen n)) (nI (outP n k (S.filter (fitsB n))).1.length) sp co w ord pl) : P_X9_findPlan post (lN n) (nI k) v0 v1 v2 v3 v4 v5 v6 v7 v8 v9 v10 v11 := by
  have hM := dRel_W hd
  have h60 := hr.2.1
  have hF : ∀ m ∈ S.filter (fitsB n), isW m := fun m hm => hd.1.1 m (List.mem_filter.mp hm).1
  have hF60 : (S.filter (fitsB n)).length ≤ 60 := filt_len (by rw [← hd.2.length_eq]; exact h60)
  have ok := outP_ok n k (S.filter (fitsB n))
  have hle : (outP n k (S.filter (fitsB n))).2 ≤ wlen n := by
    rw [ok.1]
    exact fitC_len (fun w hw => hF w (ok.2.2.2 w hw)) ok.2.1
  have e1 : runP n ([], 0) ((S.filter (fitsB n)).map (fun x => [x])) = outP n 1 (S.filter (fitsB n)) := by
    rw [← seq1]; rfl
  have e2 : runP n (outP n 1 (S.filter (fitsB n))) (tjP (seqP 1) (S.filter (fitsB n))) = outP n 2 (S.filter (fitsB n)) := by
    unfold outP
    rw [← run_app]; rfl
  have e3 : runP n (outP n 2 (S.filter (fitsB n))) (tjP (seqP 2) (S.filter (fitsB n))) = outP n 3 (S.filter (fitsB n)) := by
    unfold outP
    rw [← run_app]; rfl
  have fin : ∀ sp co w ord pl, spelIs n sp co → plaF M (outP n k (S.filter (fitsB n))).1 pl → post (nI (wlen n) - nI (outP n k (S.filter (fitsB n))).2) (nI (wlen n)) (nI (outP n k (S.filter (fitsB n))).1.length) sp co w ord pl := fun sp co w ord pl a b => by
    rw [nI_sub hle]
    exact h sp co w ord pl a b
  refine p_xspell hw (fun sp co hs => p_xorder hr hd hw.2.1 hs.2 (fun f hO => ?_))
  have key := p_xL22 (z3 := nI k) (v0 := v0) (v2 := v2) (v3 := v3) hr hM hw hs.2 hF hF60 hO (K := fun (x11 : Int32) (w12 : Int32) (w13 : Nat → Int32) (w14 : Nat → Int32) => P_X9_findPlan_L55 (nI k) (nI (S.filter (fitsB n)).length) v0 v1 v2 v3 (nI (wlen n)) v6 co f (fun (x23 : Int32) (w24 : Int32) (w25 : Nat → Int32) (w26 : Nat → Int32) => P_X9_findPlan_L116 (nI k) (nI (S.filter (fitsB n)).length) v0 v1 v2 v3 (nI (wlen n)) v6 co f (fun (x39 : Int32) (w40 : Int32) (w41 : Nat → Int32) (w42 : Nat → Int32) => post (nI (wlen n) - x39) (nI (wlen n)) w40 sp co w41 f w42) FU x23 0 w24 w25 w26) FU x11 0 w12 w13 w14)
    (S.filter (fitsB n)) 0 FU ([], 0) 0 v9 v11 rfl (Nat.zero_le _) (FU_s _ (by omega)) (by show 0 ≤ 36; omega) nI_0.symm (fun i x hx => by simp at hx) (fun a5 a9 a11 g5 g11 gs => ?_)
  · have z : nI (([], 0) : List Nat × Nat).2 = 0 := nI_0
    rw [z] at key
    exact key
  · rw [e1] at g5 g11 gs ⊢
    by_cases k1 : k = 1
    · subst k1
      refine p_xL55n (show nI 1 ≤ 1 by decide) ?_ FU (FU_s 0 (by omega)) 0
      refine p_xL116n (show nI 1 ≤ 2 by decide) ?_ FU (FU_s 0 (by omega)) 0
      rw [g5]
      exact fin sp co _ f a11 hs g11
    · have key2 := p_xL55 (z3 := nI k) (v0 := v0) (v2 := v2) (v3 := v3) hr hM hw hs.2 hF hF60 hO (fun q => by have := (nle (b := 1) (by omega) (by omega)).mp q; omega) (K := fun (x23 : Int32) (w24 : Int32) (w25 : Nat → Int32) (w26 : Nat → Int32) => P_X9_findPlan_L116 (nI k) (nI (S.filter (fitsB n)).length) v0 v1 v2 v3 (nI (wlen n)) v6 co f (fun (x39 : Int32) (w40 : Int32) (w41 : Nat → Int32) (w42 : Nat → Int32) => post (nI (wlen n) - x39) (nI (wlen n)) w40 sp co w41 f w42) FU x23 0 w24 w25 w26)
        (S.filter (fitsB n)) 0 FU (outP n 1 (S.filter (fitsB n))) a5 a9 a11 rfl (Nat.zero_le _) (FU_s _ (by omega)) gs g5 g11 (fun b5 b9 b11 q5 q11 qs => ?_)
      · rw [nI_0] at key2
        exact key2
      · rw [e2] at q5 q11 qs ⊢
        by_cases k2 : k = 2
        · subst k2
          refine p_xL116n (show nI 2 ≤ 2 by decide) ?_ FU (FU_s 0 (by omega)) 0
          rw [q5]
          exact fin sp co _ f b11 hs q11
        · have k3 : k = 3 := by omega
          subst k3
          have key3 := p_xL116 (z3 := nI 3) (v0 := v0) (v2 := v2) (v3 := v3) hr hM hw hs.2 hF hF60 hO (fun q => by have := (nle (b := 2) (by omega) (by omega)).mp q; omega) (K := fun (x39 : Int32) (w40 : Int32) (w41 : Nat → Int32) (w42 : Nat → Int32) => post (nI (wlen n) - x39) (nI (wlen n)) w40 sp co w41 f w42)
            (S.filter (fitsB n)) 0 FU (outP n 2 (S.filter (fitsB n))) b5 b9 b11 rfl (Nat.zero_le _) (FU_s _ (by omega)) qs q5 q11 (fun c5 c9 c11 r5 r11 _ => ?_)
          · rw [nI_0] at key3
            exact key3
          · rw [e3] at r5 r11 ⊢
            rw [r5]
            exact fin sp co _ f c11 hs r11
end XF
