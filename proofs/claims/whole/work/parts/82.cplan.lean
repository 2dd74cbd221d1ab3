/-! the component's planner -/
theorem fit_one {n x : Nat} {C : List Nat} (hC : fitC n C = true) : okU (fun l => cnt n l - cntS C l) x (wlen x) ↔ fitC n (C ++ [x]) = true := by
  rw [fitC_iff]
  have hC' := fitC_iff.mp hC
  constructor
  · intro h l a b
    have h1 := h l a b
    have h2 := hC' l a b
    have h3 : cntU x (wlen x) l ≤ cnt n l - cntS C l := h1
    rw [cntS_app]
    show cntS C l + (cntU x (wlen x) l + 0) ≤ cnt n l
    omega
  · intro h l a b
    have h1 := h l a b
    rw [cntS_app] at h1
    have h3 : cntS C l + (cntU x (wlen x) l + 0) ≤ cnt n l := h1
    show cntU x (wlen x) l ≤ cnt n l - cntS C l
    omega
theorem isU_take {n x : Nat} {C : List Nat} {v : Nat → Int32} (hu : isU v (fun l => cnt n l - cntS C l)) (ho : okU (fun l => cnt n l - cntS C l) x (wlen x)) : isU (putF v x (-1) (wlen x)) (fun l => cnt n l - cntS (C ++ [x]) l) := fun l a b => by
  have ⟨h1, h2⟩ := hu l a b
  have h3 : cntU x (wlen x) l ≤ cnt n l - cntS C l := ho l a b
  have e : cntS (C ++ [x]) l = cntS C l + cntU x (wlen x) l := by rw [cntS_app]; rfl
  have h2' : cnt n l - cntS C l < 2 ^ 30 := h2
  constructor
  · show v l + (-1) * nI (cntU x (wlen x) l) = nI (cnt n l - cntS (C ++ [x]) l)
    rw [h1, m1_sub _ _ h3, e, Nat.sub_sub]
  · show cnt n l - cntS (C ++ [x]) l < 2 ^ 30
    rw [e]
    omega
theorem del_app (C : List Nat) (x : Nat) : delAt (C ++ [x]) C.length = C := by
  unfold delAt
  rw [List.take_left, List.drop_eq_nil_of_le (by rw [List.length_append]; exact Nat.le_refl _), List.append_nil]
theorem run_36 {n : Nat} : ∀ (L : List (List Nat)) (s : List Nat × Nat), s.2 ≤ 36 → (∀ c ∈ L, lenS c ≤ 36) → (runP n s L).2 ≤ 36
  | [], s, h, _ => h
  | c :: L, s, h, hL => by
    refine run_36 L _ ?_ fun d hd => hL d (List.mem_cons_of_mem _ hd)
    unfold stp
    split
    · exact hL c List.mem_cons_self
    · exact h
theorem blk (C : List Nat) (g : List Nat → List (List Nat)) (x : Nat) (T : List Nat) : (tjP g (x :: T)).map (fun c => C ++ c) = (g (x :: T)).map (fun d => C ++ x :: d) ++ (tjP g T).map (fun c => C ++ c) := by
  show ((g (x :: T)).map (fun c => x :: c) ++ tjP g T).map _ = _
  rw [List.map_append, List.map_map]
  rfl
theorem p_lonL {c : Int32} {f : Nat → Int64} {F : List Nat} (hr : rowIs c f F) (hF : ∀ m ∈ F, isW m) {K : Int32 → Prop} (h : ∀ lg : Nat, (∀ m ∈ F, wlen m ≤ lg) → lg ≤ 12 → K (nI lg)) :
    ∀ (T : List Nat) (i a fuel : Nat), F.drop i = T → i ≤ F.length → T.length < fuel → a ≤ 12 → (∀ m ∈ F, m ∈ T ∨ wlen m ≤ a) → P_X3_longestOf_L4 c f K fuel (nI a) (nI i) := by
  obtain ⟨rfl, h60, -⟩ := id hr
  intro T
  induction T with
  | nil =>
    intro i a fuel hd hi hf ha hm
    obtain ⟨g, rfl⟩ : ∃ g, fuel = g + 1 := ⟨fuel - 1, by simp at hf; omega⟩
    unfold P_X3_longestOf_L4
    exact ⟨fun _ => h a (fun m q => (hm m q).resolve_left List.not_mem_nil) ha, fun z => absurd (nI_le (drop_nil hd) (by omega)) z⟩
  | cons x T ih =>
    intro i a fuel hd hi hf ha hm
    obtain ⟨g, rfl⟩ : ∃ g, fuel = g + 1 := ⟨fuel - 1, by simp at hf; omega⟩
    obtain ⟨hai, hd2⟩ := drop_at hd
    have hil := (List.getElem?_eq_some_iff.mp hai).1
    have hwx := hF x (List.mem_of_getElem? hai)
    have hl := isW_len hwx
    have hf2 : T.length < g := by simp at hf; omega
    unfold P_X3_longestOf_L4
    rw [← nI_succ]
    refine ⟨fun z => absurd z (nI_ge hil (by omega)), fun _ => p_word hr hai (p_len hwx.2.1 (fun y hy => ?_))⟩
    rw [maxI (by omega) (by omega)] at hy
    rw [hy]
    refine ih (i + 1) _ g hd2 (by omega) hf2 (by omega) (fun m q => ?_)
    rcases hm m q with z | z
    · rcases List.mem_cons.mp z with e | e
      · rw [e]; exact Or.inr (Nat.le_max_right _ _)
      · exact Or.inl e
    · exact Or.inr (Nat.le_trans z (Nat.le_max_left _ _))
theorem p_longest {c : Int32} {f : Nat → Int64} {F : List Nat} (hr : rowIs c f F) (hF : ∀ m ∈ F, isW m) {post : Int32 → Prop} (h : ∀ lg : Nat, (∀ m ∈ F, wlen m ≤ lg) → lg ≤ 12 → post (nI lg)) : P_X3_longestOf post c f := by
  have h60 := hr.2.1
  have key := p_lonL hr hF (K := fun (x5 : Int32) => post x5) h F 0 0 FU rfl (Nat.zero_le _) (FU_s _ (by omega)) (by omega) (fun m q => Or.inl q)
  rw [nI_0] at key
  exact key
/-- what a search over p places does -/
def fillOK (n : Nat) (F : List Nat) (c : Int32) (f : Nat → Int64) (lg : Nat) (PF : FPT) (p : Nat) : Prop :=
  ∀ (C : List Nat) (i : Nat) (s : List Nat × Nat) (v2 : Nat → Int32) (v3 : Int32) (v4 : Nat → Int64) (v5 : Int32) (v6 : Nat → Int64) (post : Int32 → (Nat → Int32) → Int32 → (Nat → Int64) → Int32 → (Nat → Int64) → Prop),
    fitC n C = true → C.length + p ≤ 3 → (∀ w ∈ C, w ∈ F) → isU v2 (fun l => cnt n l - cntS C l) → rowIs v3 v4 C → rowIs v5 v6 s.1 → s.2 ≤ 36 → i ≤ F.length →
    (∀ v3' v4' v5' v6', rowIs v3' v4' C → rowIs v5' v6' (runP n s ((seqP p (F.drop i)).map (fun c => C ++ c))).1 → post (nI (runP n s ((seqP p (F.drop i)).map (fun c => C ++ c))).2) v2 v3' v4' v5' v6') →
    PF post (nI p) (nI i) (nI (lenS C)) (nI s.2) (nI lg) v2 v3 v4 v5 v6 c f
section PL
variable {n : Nat} {F : List Nat} {c : Int32} {f : Nat → Int64} {lg : Nat}
theorem p_try (hr : rowIs c f F) (hF : ∀ m ∈ F, isW m) {PF : FPT} {q : Nat} (hPF : 1 ≤ q → fillOK n F c f lg PF q) {C : List Nat} {i x : Nat} {T : List Nat} {s : List Nat × Nat} {v2 : Nat → Int32} {v3 : Int32} {v4 : Nat → Int64} {v5 : Int32} {v6 : Nat → Int64} {post : Int32 → (Nat → Int32) → Int32 → (Nat → Int64) → Int32 → (Nat → Int64) → Prop}
    (hdr : F.drop i = x :: T) (hC : fitC n C = true) (hl : C.length + (q + 1) ≤ 3) (hCF : ∀ w ∈ C, w ∈ F) (hu : isU v2 (fun l => cnt n l - cntS C l)) (h34 : rowIs v3 v4 C) (h56 : rowIs v5 v6 s.1) (hs : s.2 ≤ 36) (hi : i ≤ F.length) (hpr : q = 0 → s.2 < lenS C + wlen x)
    (h : ∀ v3' v4' v5' v6', rowIs v3' v4' C → rowIs v5' v6' (runP n s ((seqP q (x :: T)).map (fun d => C ++ x :: d))).1 → post (nI (runP n s ((seqP q (x :: T)).map (fun d => C ++ x :: d))).2) v2 v3' v4' v5' v6') :
    P_X3_tryWord PF post (nI (q + 1)) (nI i) (nI (lenS C + wlen x)) (nI s.2) (nI lg) v2 v3 v4 v5 v6 c f := by
  obtain ⟨hai, hd2⟩ := drop_at hdr
  have hxF := List.mem_of_getElem? hai
  have hwx := hF x hxF
  have e1 : lenS (C ++ [x]) = lenS C + wlen x := by rw [lenS_app]; rfl
  have hlen : (C ++ [x]).length = C.length + 1 := by rw [List.length_append]; rfl
  unfold P_X3_tryWord
  refine p_word hr hai (p_take hwx hu (fun ho => ⟨fun z => absurd z (by decide), fun _ => p_append h34 (by omega) (fun c1 f1 h1 => ?_)⟩) (fun ho => ⟨fun _ => ?_, fun z => absurd rfl z⟩))
  · have hfit := (fit_one hC).mp ho
    have e2 : ∀ c', rowIs c' f1 (C ++ [x]) → c' - 1 = nI C.length := fun c' h' => by rw [h'.1, hlen, nI_pred]
    have back : putF (putF v2 x (-1) (wlen x)) x 1 (wlen x) = v2 := putF_back v2 x (-1) 1 _ (by decide)
    refine ⟨fun z => p_copy h1 (fun c2 f2 h2 => ?_), fun z => ?_⟩
    · have z' := (nle (b := 1) (by omega) (by omega)).mp z
      have q0 : q = 0 := by omega
      subst q0
      have hR : runP n s ((seqP 0 (x :: T)).map (fun d => C ++ x :: d)) = (C ++ [x], lenS C + wlen x) := by
        show stp n s (C ++ [x]) = _
        unfold stp
        rw [if_pos ⟨by rw [e1]; exact hpr rfl, hfit⟩, e1]
      rw [hR] at h
      unfold P_X6_size
      dsimp only
      rw [e2 c1 h1]
      refine p_delete h1 (by omega) (fun c3 f3 h3 => p_put hwx.2.1 ?_)
      rw [del_app] at h3
      rw [back]
      exact h c3 f3 c2 f2 h3 h2
    · have z' : ¬ q + 1 ≤ 1 := fun w => z ((nle (b := 1) (by omega) (by omega)).mpr w)
      have hR : (seqP q (x :: T)).map (fun d => C ++ x :: d) = (seqP q (F.drop i)).map (fun c => (C ++ [x]) ++ c) := by
        rw [hdr]
        refine List.map_congr_left fun d _ => ?_
        rw [List.append_assoc]; rfl
      rw [hR] at h
      rw [nI_pred, ← e1]
      refine hPF (by omega) (C ++ [x]) i s _ c1 f1 v5 v6 _ hfit (by omega) (fun w hw => ?_) (isU_take hu ho) h1 h56 hs hi (fun v3' v4' v5' v6' h3 h5 => ?_)
      · rcases List.mem_append.mp hw with w1 | w1
        · exact hCF w w1
        · rw [List.mem_singleton.mp w1]; exact hxF
      · unfold P_X6_size
        dsimp only
        rw [show v3' - 1 = nI C.length by rw [h3.1, hlen, nI_pred]]
        refine p_delete h3 (by omega) (fun c3 f3 h4 => p_put hwx.2.1 ?_)
        rw [del_app] at h4
        rw [back]
        exact h c3 f3 v5' v6' h4 h5
  · have hR : runP n s ((seqP q (x :: T)).map (fun d => C ++ x :: d)) = s := run_skip _ fun d hd => by
      obtain ⟨e, -, rfl⟩ := List.mem_map.mp hd
      refine Or.inr ?_
      cases hb : fitC n (C ++ x :: e) with
      | false => rfl
      | true =>
        have e3 : C ++ x :: e = (C ++ [x]) ++ e := by rw [List.append_assoc]; rfl
        rw [e3] at hb
        exact absurd ((fit_one hC).mpr (fitC_sub hb)) ho
    rw [hR] at h
    exact h v3 v4 v5 v6 h34 h56
theorem p_filL (hr : rowIs c f F) (hF : ∀ m ∈ F, isW m) (hlg : ∀ m ∈ F, wlen m ≤ lg) (hlg2 : lg ≤ 12) {PF : FPT} {q : Nat} (hPF : 1 ≤ q → fillOK n F c f lg PF q) {C : List Nat} {v2 : Nat → Int32} {K : Int32 → (Nat → Int32) → Int32 → (Nat → Int64) → Int32 → (Nat → Int64) → Prop}
    (hC : fitC n C = true) (hl : C.length + (q + 1) ≤ 3) (hCF : ∀ w ∈ C, w ∈ F) (hu : isU v2 (fun l => cnt n l - cntS C l)) :
    ∀ (T : List Nat) (i fuel : Nat) (s : List Nat × Nat) (v3 : Int32) (v4 : Nat → Int64) (v5 : Int32) (v6 : Nat → Int64), F.drop i = T → i ≤ F.length → T.length < fuel → rowIs v3 v4 C → rowIs v5 v6 s.1 → s.2 ≤ 36 →
    (∀ v3' v4' v5' v6', rowIs v3' v4' C → rowIs v5' v6' (runP n s ((tjP (seqP q) T).map (fun c => C ++ c))).1 → K (nI (runP n s ((tjP (seqP q) T).map (fun c => C ++ c))).2) v2 v3' v4' v5' v6') →
    P_X3_fillPlaces_L14 PF (nI (q + 1)) (nI (lenS C)) (nI lg) c f K fuel (nI i) (nI s.2) v2 v3 v4 v5 v6 := by
  obtain ⟨rfl, h60, -⟩ := id hr
  have hCl := lenS_le C (fun w hw => hlg w (hCF w hw))
  have hql : q * lg ≤ 2 * 12 := Nat.mul_le_mul (by omega) hlg2
  have hCl2 : C.length * lg ≤ 2 * 12 := Nat.mul_le_mul (by omega) hlg2
  intro T
  induction T with
  | nil =>
    intro i fuel s v3 v4 v5 v6 hd hi hf h34 h56 hs h
    obtain ⟨g, rfl⟩ : ∃ g, fuel = g + 1 := ⟨fuel - 1, by simp at hf; omega⟩
    unfold P_X3_fillPlaces_L14
    exact ⟨fun _ => h v3 v4 v5 v6 h34 h56, fun z => absurd (nI_le (drop_nil hd) (by omega)) z⟩
  | cons x T ih =>
    intro i fuel s v3 v4 v5 v6 hd hi hf h34 h56 hs h
    obtain ⟨g, rfl⟩ : ∃ g, fuel = g + 1 := ⟨fuel - 1, by simp at hf; omega⟩
    obtain ⟨hai, hd2⟩ := drop_at hd
    have hil := (List.getElem?_eq_some_iff.mp hai).1
    have hxF := List.mem_of_getElem? hai
    have hwx := hF x hxF
    have hxl := hlg x hxF
    have hf2 : T.length < g := by simp at hf; omega
    rw [blk, run_app] at h
    have hdF : ∀ d ∈ seqP q (x :: T), lenS d ≤ q * lg := fun d hd' => by
      have ⟨m1, m2⟩ := seq_mem q (x :: T) d hd'
      rw [← m1]
      refine lenS_le d fun w hw => hlg w ?_
      have : w ∈ F.drop i := by rw [hd]; exact m2 w hw
      exact List.mem_of_mem_drop this
    unfold P_X3_fillPlaces_L14
    rw [← nI_succ]
    refine ⟨fun z => absurd z (nI_ge hil (by omega)), fun _ => p_word hr hai (p_len hwx.2.1 (fun y4 hy4 y5 hy5 => ?_))⟩
    rw [nI_add] at hy4
    rw [hy4, nI_pred, nI_mul, nI_add] at hy5
    rw [hy4, hy5]
    refine ⟨fun z => ?_, fun z => ?_⟩
    · have z' := (nle (by omega) (by omega)).mp z
      have hR : runP n s ((seqP q (x :: T)).map (fun d => C ++ x :: d)) = s := run_skip _ fun d hd' => by
        obtain ⟨e, he, rfl⟩ := List.mem_map.mp hd'
        have h1 := hdF e he
        refine Or.inl ?_
        rw [lenS_app]
        show lenS C + (wlen x + lenS e) ≤ s.2
        omega
      rw [hR] at h
      exact ih (i + 1) g s v3 v4 v5 v6 hd2 (by omega) hf2 h34 h56 hs h
    · have z' : ¬ lenS C + wlen x + q * lg ≤ s.2 := fun w => z ((nle (by omega) (by omega)).mpr w)
      refine p_try hr hF hPF hd hC hl hCF hu h34 h56 hs hi (fun e => by subst e; omega) (fun v3' v4' v5' v6' h3 h5 => ?_)
      refine ih (i + 1) g _ v3' v4' v5' v6' hd2 (by omega) hf2 h3 h5 (run_36 _ _ hs fun d hd' => ?_) h
      obtain ⟨e, he, rfl⟩ := List.mem_map.mp hd'
      have h1 := hdF e he
      rw [lenS_app]
      show lenS C + (wlen x + lenS e) ≤ 36
      have h3' : C.length * lg + lg + q * lg ≤ 36 := by
        have a1 : (C.length + (q + 1)) * lg ≤ 3 * 12 := Nat.mul_le_mul hl hlg2
        rw [Nat.add_mul, Nat.add_mul, Nat.one_mul] at a1
        omega
      omega
theorem p_fill (hr : rowIs c f F) (hF : ∀ m ∈ F, isW m) (hlg : ∀ m ∈ F, wlen m ≤ lg) (hlg2 : lg ≤ 12) : ∀ d p : Nat, 1 ≤ p → p ≤ 3 → p ≤ d → fillOK n F c f lg (P_X3_fillPlaces d) p := by
  have h60 := hr.2.1
  intro d
  induction d with
  | zero => intro p h1 _ h3; omega
  | succ d ih =>
    intro p h1 h3 hd
    obtain ⟨q, rfl⟩ : ∃ q, p = q + 1 := ⟨p - 1, by omega⟩
    intro C i s v2 v3 v4 v5 v6 post hC hl hCF hu h34 h56 hs hi h
    unfold P_X3_fillPlaces
    refine ⟨fun z => absurd ((nlt (b := 1) (by omega) (by omega)).mp z) (by omega), fun _ => ⟨fun _ => ?_, fun z => absurd ((nle (b := 3) (by omega) (by omega)).mpr h3) z⟩⟩
    exact p_filL hr hF hlg hlg2 (fun hq => ih q hq (by omega) (by omega)) hC hl hCF hu (F.drop i) i FU s v3 v4 v5 v6 rfl hi (FU_s _ (by rw [List.length_drop]; omega)) h34 h56 hs h
theorem p_plaL (hr : rowIs c f F) (hF : ∀ m ∈ F, isW m) (hlg : ∀ m ∈ F, wlen m ≤ lg) (hlg2 : lg ≤ 12) {k : Nat} (hk : k ≤ 3) {v2 : Nat → Int32} (hu : isU v2 (cnt n)) {K : Int32 → (Nat → Int32) → Int32 → (Nat → Int64) → Int32 → (Nat → Int64) → Prop}
    (h : ∀ v3' v4' v5' v6', rowIs v3' v4' [] → rowIs v5' v6' (outP n k F).1 → K (nI (outP n k F).2) v2 v3' v4' v5' v6') :
    ∀ (m p fuel : Nat) (v3 : Int32) (v4 : Nat → Int64) (v5 : Int32) (v6 : Nat → Int64), p + m = k → m < fuel → rowIs v3 v4 [] → rowIs v5 v6 (outP n p F).1 → P_X3_plan_L39 (nI k) (nI lg) c f K fuel (nI (p + 1)) (nI (outP n p F).2) v2 v3 v4 v5 v6 := by
  intro m
  induction m with
  | zero =>
    intro p fuel v3 v4 v5 v6 hp hf h34 h56
    obtain ⟨g, rfl⟩ : ∃ g, fuel = g + 1 := ⟨fuel - 1, by omega⟩
    have e : p = k := by omega
    subst e
    unfold P_X3_plan_L39
    exact ⟨fun _ => h v3 v4 v5 v6 h34 h56, fun z => absurd ((nlt (by omega) (by omega)).mpr (Nat.lt_succ_self p)) z⟩
  | succ m ih =>
    intro p fuel v3 v4 v5 v6 hp hf h34 h56
    obtain ⟨g, rfl⟩ : ∃ g, fuel = g + 1 := ⟨fuel - 1, by omega⟩
    have hs : (outP n p F).2 ≤ 36 := by
      have ok := outP_ok n p F
      rw [ok.1]
      have := lenS_le (lg := lg) (outP n p F).1 (fun w hw => hlg w (ok.2.2.2 w hw))
      have h2 : (outP n p F).1.length * lg ≤ 3 * 12 := Nat.mul_le_mul (by have := ok.2.2.1; omega) hlg2
      omega
    have e0 : (seqP (p + 1) (F.drop 0)).map (fun c => ([] : List Nat) ++ c) = seqP (p + 1) F := by
      rw [List.drop_zero]
      exact List.map_id _
    have e1 : runP n (outP n p F) (seqP (p + 1) F) = outP n (p + 1) F := by
      unfold outP
      show _ = runP n ([], 0) (canP p F ++ seqP (p + 1) F)
      rw [run_app]
    have key := p_fill (n := n) hr hF hlg hlg2 5 (p + 1) (by omega) (by omega) (by omega) [] 0 (outP n p F) v2 v3 v4 v5 v6 (fun (w9 : Int32) (w10 : Nat → Int32) (w11 : Int32) (w12 : Nat → Int64) (w13 : Int32) (w14 : Nat → Int64) => P_X3_plan_L39 (nI k) (nI lg) c f K g (nI (p + 1 + 1)) w9 w10 w11 w12 w13 w14)
      (fitC_nil n) (by simp; omega) (fun w hw => absurd hw List.not_mem_nil) hu h34 h56 hs (Nat.zero_le _) (fun v3' v4' v5' v6' h3 h5 => by
        rw [e0, e1] at h5 ⊢
        exact ih (p + 1) g v3' v4' v5' v6' (by omega) (by omega) h3 h5)
    have e2 : nI (lenS []) = 0 := nI_0
    rw [nI_0, e2] at key
    unfold P_X3_plan_L39
    rw [← nI_succ]
    exact ⟨fun z => absurd ((nlt (by omega) (by omega)).mp z) (by omega), fun _ => ⟨fun z => absurd ((nlt (a := 3) (by omega) (by omega)).mp z) (by omega), fun _ => key⟩⟩
theorem p_plbL {P : List Nat} {v5 : Int32} {v6 : Nat → Int64} (h56 : rowIs v5 v6 P) (hP : ∀ w ∈ P, isW w) (hfit : fitC n P = true) {K : (Nat → Int32) → Prop} (h : ∀ left, isU left (fun l => cnt n l - cntS P l) → K left) :
    ∀ (T : List Nat) (j fuel : Nat) (v2 : Nat → Int32), P.drop j = T → j ≤ P.length → T.length < fuel → isU v2 (fun l => cnt n l - cntS (P.take j) l) → P_X3_plan_L70 v5 v6 K fuel (nI j) v2 := by
  obtain ⟨rfl, h60, -⟩ := id h56
  intro T
  induction T with
  | nil =>
    intro j fuel v2 hd hj hf hu
    obtain ⟨g, rfl⟩ : ∃ g, fuel = g + 1 := ⟨fuel - 1, by simp at hf; omega⟩
    unfold P_X3_plan_L70
    rw [List.take_of_length_le (drop_nil hd)] at hu
    exact ⟨fun _ => h v2 hu, fun z => absurd (nI_le (drop_nil hd) (by omega)) z⟩
  | cons x T ih =>
    intro j fuel v2 hd hj hf hu
    obtain ⟨g, rfl⟩ : ∃ g, fuel = g + 1 := ⟨fuel - 1, by simp at hf; omega⟩
    obtain ⟨hai, hd2⟩ := drop_at hd
    have hil := (List.getElem?_eq_some_iff.mp hai).1
    have hwx := hP x (List.mem_of_getElem? hai)
    have hf2 : T.length < g := by simp at hf; omega
    have et : P.take (j + 1) = P.take j ++ [x] := by rw [List.take_add_one, hai]; rfl
    have es : P.take j ++ [x] ++ T = P := by rw [← et, ← hd2]; exact List.take_append_drop _ _
    have hf1 : fitC n (P.take j ++ [x]) = true := fitC_sub (b := T) (by rw [es]; exact hfit)
    unfold P_X3_plan_L70
    rw [← nI_succ]
    refine ⟨fun z => absurd z (nI_ge hil (by omega)), fun _ => p_word h56 hai (p_take hwx hu (fun ho => ?_) (fun ho => absurd ((fit_one (fitC_sub hf1)).mpr hf1) ho))⟩
    refine ih (j + 1) g _ hd2 (by omega) hf2 ?_
    rw [et]
    exact isU_take hu ho
theorem p_plan (hw : isW n) (hr : rowIs c f F) (hF : ∀ m ∈ F, isW m) {k : Nat} (hk : k ≤ 3) {v0 v1 : Int32} {v2 : Nat → Int32} {v3 : Int32} {v4 : Nat → Int64} (h34 : rowIs v3 v4 []) {v5 : Int32} {v6 : Nat → Int64} {post : Int32 → Int32 → (Nat → Int32) → Int32 → (Nat → Int64) → Int32 → (Nat → Int64) → Prop}
    (h : ∀ a b left v3' v4' v5' v6', isU left (fun l => cnt n l - cntS (outP n k F).1 l) → rowIs v3' v4' [] → rowIs v5' v6' (outP n k F).1 → post a b left v3' v4' v5' v6') : P_X3_plan post (lN n) (nI k) v0 v1 v2 v3 v4 v5 v6 c f := by
  have ok := outP_ok n k F
  have h1 : rowIs 0 v6 (outP n 0 F).1 := ⟨nI_0.symm, Nat.zero_le _, fun i n hi => by
    have : ([] : List Nat)[i]? = some n := hi
    simp at this⟩
  unfold P_X3_plan
  refine p_clear (p_put hw.2.1 (p_longest hr hF (fun lg hlg hlg2 => ?_)))
  have hu := isU_clr hw.2.1 v2
  have key := p_plaL (n := n) hr hF hlg hlg2 hk hu (K := fun (w15 : Int32) (w16 : Nat → Int32) (w17 : Int32) (w18 : Nat → Int64) (w19 : Int32) (w20 : Nat → Int64) => P_X3_plan_L70 w19 w20 (fun (w25 : Nat → Int32) => post w15 (nI lg) w25 w17 w18 w19 w20) FU 0 w16)
    (fun v3' v4' v5' v6' h3 h5 => by
      have l5 := h5.2.1
      have key := p_plbL (n := n) h5 (fun w hw => hF w (ok.2.2.2 w hw)) ok.2.1 (K := fun (w25 : Nat → Int32) => post (nI (outP n k F).2) (nI lg) w25 v3' v4' v5' v6') (fun left hl => h _ _ left v3' v4' v5' v6' hl h3 h5) (outP n k F).1 0 FU (putF (clrF v2 32) n 1 (wlen n)) rfl (Nat.zero_le _) (FU_s _ (by omega)) hu
      rw [nI_0] at key
      exact key) k 0 FU v3 v4 0 v6 (Nat.zero_add _) (FU_s _ (by omega)) h34 h1
  have e2 : nI (outP n 0 F).2 = 0 := nI_0
  have e3 : nI (0 + 1) = 1 := rfl
  rw [e2, e3] at key
  exact key
end PL
